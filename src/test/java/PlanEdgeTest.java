/** Terms 1 on plans, promises 7 to 11: each sentence that names an edge. */
public final class PlanEdgeTest {
    private static final Check CHECK = new Check("PlanEdgeTest");
    private static final int NONE = Bench.NONE;
    private static final int BLANKS = 0x20202020;

    public static void main(String[] args) {
        textOfNoZone();
        zoneOfNoItem();
        itemsOfNumbers();
        itemsOfOneNumber();
        words();
        numbersOfPlotsToldOrNot();
        numbersOfOneToThreeDigits();
        tokensAsLongAsTheyGo();
        blanksBetween();
        bytesThatBeginNone();
        itemsToldAgain();
        zonesAtMostEight();
        faultAtTheFirstToken();
        faultAtTheLength();
        zoneThatNamesFirst();
        adoptedFromTheLatestDay();
        feedHighestFirst();
        feedMoreThanSixHundred();
        adoptTheFirstBytes();
        adoptFromAnyDay();
        adoptAsKnown();
        adoptFault();
        adoptRefused();
        adoptTwenty();
        faultOfTheLatest();
        planOnDays();
        planNoSuchDays();
        zoneParts();
        zoneNoneSuch();
        CHECK.finish();
    }

    private static void fault(String text, int want) {
        CHECK.due("fault of '" + text + "'", Bench.fault(text), want);
    }

    private static PlanningBench twelvePlots(String text) {
        PlanningBench x = new PlanningBench();
        for (int i = 0; i < 12; i++) {
            Bench.plot(x, 5 * i, 0, 5 * i + 5, 0, 5 * i, 5);
        }
        CHECK.due("adopt '" + text + "'", Bench.adopt(x, text, 0), 0);
        return x;
    }

    private static void textOfNoZone() {
        CHECK.sentence("Terms 1", "A PLAN is a text: {ZONE}");
        fault("", NONE);
        fault(" ", NONE);
        fault("\n \n", NONE);
        fault("{", 0);
        fault("{zone}", 0);
        fault("zone{}zone{}", NONE);
        fault("zone{};zone{}", 6);
    }

    private static void zoneOfNoItem() {
        CHECK.sentence("Terms 1", "ZONE = \"zone\" \"{\" {ITEM} \"}\"");
        fault("zone{}", NONE);
        fault("zone{edge 1;}", NONE);
        fault("zone{edge 1;edge 1;}", NONE);
        fault("zone}", 4);
        fault("zone edge 1;}", 5);
        fault("zone{{}", 5);
        fault("zone{;}", 5);
        fault("zone{}}", 6);
        fault("zone{zone{}}", 5);
        PlanningBench x = twelvePlots("zone{}");
        CHECK.due("it names no plot", x.zone(0, 0, 0), NONE);
    }

    private static void itemsOfNumbers() {
        CHECK.sentence("Terms 1", "ITEM = WORD NUMBER {NUMBER} \";\" for plots and use");
        fault("zone{plots;}", 10);
        fault("zone{use;}", 8);
        fault("zone{plots}", 10);
        fault("zone{plots 1;}", NONE);
        fault("zone{use 1;}", NONE);
        fault("zone{plots 1 2;}", NONE);
        fault("zone{use 1 2 3 4 5 6 7 0 1 2;}", NONE);
        fault("zone{plots 1}", 12);
        fault("zone{plots 1 2}", 14);
        fault("zone{use 1 plots 2;}", 11);
        fault("zone{use 1;;}", 11);
        fault("zone{use" + " 1".repeat(295) + ";}", NONE);
    }

    private static void itemsOfOneNumber() {
        CHECK.sentence("Terms 1", "WORD NUMBER \";\" for the others");
        String[] words = {"height", "cover", "edge", "shade"};
        for (String word : words) {
            int end = 5 + word.length();
            fault("zone{" + word + " 1;}", NONE);
            fault("zone{" + word + ";}", end);
            fault("zone{" + word + "}", end);
            fault("zone{" + word + " 1 2;}", end + 3);
            fault("zone{" + word + " 1}", end + 2);
            fault("zone{" + word + " 1 " + word + " 1;}", end + 3);
        }
    }

    private static void words() {
        CHECK.sentence("Terms 1",
            "WORD \"plots\" (numbers of PLOTS, told or not), \"use\", \"height\", \"cover\" (hundredths), \"edge\", \"shade\" (tenths)");
        String[] words = {"plots", "use", "height", "cover", "edge", "shade"};
        for (String word : words) {
            fault("zone{" + word + " 1;}", NONE);
            fault("zone{" + word.substring(1) + " 1;}", 5);
            fault("zone{" + word.substring(0, word.length() - 1) + " 1;}", 5);
            fault("zone{" + word + "s 1;}", 5);
            fault("zone{" + word.substring(0, word.length() - 1) + "x 1;}", 5);
            fault("zone{x" + word.substring(1) + " 1;}", 5);
            fault("zone{" + word.toUpperCase() + " 1;}", 5);
        }
        fault("zone{zone 1;}", 5);
        fault("plots 1;", 0);
    }

    private static void numbersOfPlotsToldOrNot() {
        CHECK.sentence("Terms 1", "(numbers of PLOTS, told or not)");
        PlanningBench x = new PlanningBench();
        CHECK.due("adopt", Bench.adopt(x, "zone{plots 12 16 32 33 999;}zone{plots 0 11 1;use 0;}", 0), 0);
        for (int i = 0; i < 12; i++) {
            Bench.plot(x, 5 * i, 0, 5 * i + 5, 0, 5 * i, 5);
            CHECK.due("zone of " + i, x.zone(0, i, 0), i == 0 || i == 1 || i == 11 ? 1 : NONE);
        }
        CHECK.due("judge", x.judge(11, 55, 0, 56, 1, 1, 0, 0, 0), 0);
    }

    private static void numbersOfOneToThreeDigits() {
        CHECK.sentence("Terms 1", "NUMBER: one to three digits.");
        int[][] rows = {{0, 0}, {9, 9}, {10, 10}, {99, 99}, {100, 100}, {999, 999}};
        for (int[] row : rows) {
            PlanningBench x = twelvePlots("zone{plots 3;height " + row[0] + ";}");
            CHECK.due("height " + row[0], x.zone(0, 3, 1), row[1]);
        }
        PlanningBench x = twelvePlots("zone{plots 003 04;height 000;cover 00;edge 012;shade 09;use 007;}");
        int[] want = {0, 0, 0, 12, 9};
        for (int what = 0; what <= 4; what++) {
            CHECK.due("zone(0, 3, " + what + ")", x.zone(0, 3, what), want[what]);
        }
        CHECK.due("zone(0, 4, 0)", x.zone(0, 4, 0), 0);
        CHECK.due("zone(0, 3, 17)", x.zone(0, 3, 17), 1);
        fault("zone{height 1000;}", 12);
        fault("zone{height 0000;}", 12);
        fault("zone{plots 1 0001;}", 13);
        fault("zone{use 99999999999;}", 9);
        fault("zone{height a;}", 12);
    }

    private static void tokensAsLongAsTheyGo() {
        CHECK.sentence("Terms 1", "Tokens as long as they go: words of letters a to z, digits, signs");
        fault("zone{plots0 1;use1;height1;cover2;edge3;shade4;}zone{}", NONE);
        fault("zonezone{}", 0);
        fault("zonea{}", 0);
        fault("zone{useplots 1;}", 5);
        fault("zone{use 1plots;}", 10);
        fault("zone{use 1a;}", 10);
        fault("zone{use 12345;}", 9);
        fault("zone0{}", 4);
        fault("0zone{}", 0);
        fault("zo ne{}", 0);
        fault("zone{height 1 0;}", 14);
        PlanningBench x = twelvePlots("zone{plots 1 1;}zone{plots 11;}");
        CHECK.due("11 is one number", x.zone(0, 11, 0), 1);
        CHECK.due("1 1 are two", x.zone(0, 1, 0), 0);
    }

    private static void blanksBetween() {
        CHECK.sentence("Terms 1", "between them blanks (bytes 32 and 10)");
        fault(" \nzone\n \n{ \nplots \n1 \n2\n ;\n use\n1;\n}\n ", NONE);
        int[] others = {0, 9, 11, 12, 13, 31, 33, 160, 138, 255};
        for (int other : others) {
            fault("zone" + (char) other + "{}", 4);
            fault((char) other + "zone{}", 0);
            fault("zone{}" + (char) other, 6);
        }
    }

    private static void bytesThatBeginNone() {
        CHECK.sentence("Terms 1", "(or byte that begins none)");
        int[] beside = {'a' - 1, 'z' + 2, '0' - 1, '9' + 1, 'A', 'Z', '(', '[', ',', '-', 127, 128, 255};
        for (int b : beside) {
            fault("zone{use 1" + (char) b + ";}", 10);
            fault("zone{use " + (char) b + "1;}", 9);
            fault("zone{us" + (char) b + " 1;}", 5);
            fault("zone{use 1; " + (char) b, 12);
        }
        fault("zone{use 1 !x;}", 11);
        fault("zone{a!", 5);
    }

    private static void itemsToldAgain() {
        CHECK.sentence("Terms 1", "An item told again in a ZONE takes the place of what was told (of plots and use, too).");
        PlanningBench x = twelvePlots(
            "zone{plots 0 2;use 1 2;height 5;cover 6;edge 7;shade 8;plots 1 2;use 3;height 0;cover 1;edge 2;shade 3;}"
            + "zone{plots 0 3;use 4;}");
        int[] want = {0, 0, 1, 2, 3};
        for (int what = 0; what <= 4; what++) {
            CHECK.due("zone(0, 1, " + what + ")", x.zone(0, 1, what), want[what]);
        }
        for (int use = 0; use <= 7; use++) {
            CHECK.due("use " + use, x.zone(0, 1, 10 + use), use == 3 ? 1 : 0);
        }
        CHECK.due("a plot told again", x.zone(0, 2, 0), 0);
        CHECK.due("a plot told before that", x.zone(0, 0, 0), 1);
        CHECK.due("another zone's use", x.zone(0, 3, 14), 1);
        CHECK.due("another zone's height", x.zone(0, 3, 1), NONE);
        PlanningBench y = twelvePlots("zone{plots 0;plots 12;use 1;use 8;}");
        CHECK.due("told again in vain", y.zone(0, 0, 0), NONE);
    }

    private static void zonesAtMostEight() {
        CHECK.sentence("Terms 1", "At most 8 ZONES.");
        PlanningBench x = twelvePlots("zone{}zone{}zone{}zone{}zone{}zone{}zone{}zone{plots 5;height 3;}");
        CHECK.due("the eighth", x.zone(0, 5, 0), 7);
        CHECK.due("its height", x.zone(0, 5, 1), 3);
        CHECK.sentence("Terms 1", "the 9th \"zone\"");
        String eight = "zone{}".repeat(8);
        fault(eight, NONE);
        fault(eight + " \n", NONE);
        fault(eight + "zone{}", 48);
        fault(eight + " zone{}", 49);
        fault(eight + "\n\nzone", 50);
        fault(eight + "zone{use}", 48);
        fault("zone{}".repeat(7) + "zone{", 47);
        fault("zone{}".repeat(7) + "zone{use;}", 50);
    }

    private static void faultAtTheFirstToken() {
        CHECK.sentence("Terms 1",
            "FAULT: the place of the first byte of the first token (or byte that begins none) with which no such text goes on");
        fault("use", 0);
        fault("  use", 2);
        fault("zon", 0);
        fault("zone zone", 5);
        fault("zone{ plot", 6);
        fault("zone{ height 12 } !", 16);
        fault("zone{ height 1234", 13);
        fault("zone{use 1;}x zone{", 12);
        fault(" ".repeat(599) + "z", 599);
        fault(" ".repeat(599) + "}", 599);
    }

    private static void faultAtTheLength() {
        CHECK.sentence("Terms 1", "the text's length, if more must come");
        String text = "zone{plots 0 123;height 7;";
        int[] tokenEnds = {4, 5, 10, 11, 12, 13, 14, 15, 16, 17, 23, 24, 25, 26};
        for (int end : tokenEnds) {
            fault(text.substring(0, end), end);
            fault(text.substring(0, end) + " ", end + 1);
            fault(text.substring(0, end) + "\n \n", end + 3);
        }
        PlanningBench x = new PlanningBench();
        Bench.feed(x, text + "}");
        CHECK.due("adopt(26, 0)", x.adopt(26, 0), NONE);
        CHECK.due("the text's length, not the tape's", x.fault(), 26);
        fault("zone{use" + " 1".repeat(296), 600);
        fault(" ".repeat(596) + "zone", 600);
    }

    private static void zoneThatNamesFirst() {
        CHECK.sentence("Terms 1", "A PLOT's ZONE is the first one that names it.");
        PlanningBench x = twelvePlots("zone{height 9;}zone{plots 5 1;height 1;}zone{plots 0 1;height 2;}zone{plots 0;height 3;}");
        CHECK.due("zone(0, 0, 0)", x.zone(0, 0, 0), 2);
        CHECK.due("zone(0, 0, 1)", x.zone(0, 0, 1), 2);
        CHECK.due("zone(0, 1, 0)", x.zone(0, 1, 0), 1);
        CHECK.due("zone(0, 1, 1)", x.zone(0, 1, 1), 1);
        CHECK.due("zone(0, 2, 0)", x.zone(0, 2, 0), NONE);
    }

    private static void adoptedFromTheLatestDay() {
        CHECK.sentence("Terms 1",
            "A PLAN is ADOPTED: in force from a day on; of several in force the one ADOPTED from the latest day, of those the latest one.");
        PlanningBench x = new PlanningBench();
        x.adopt(0, 10);
        x.adopt(0, 20);
        x.adopt(0, 10);
        x.adopt(0, 20);
        x.adopt(0, 5);
        int[][] rows = {{4, NONE}, {5, 4}, {9, 4}, {10, 2}, {19, 2}, {20, 3}, {21, 3}, {9999, 3}};
        for (int[] row : rows) {
            CHECK.due("plan(" + row[0] + ", 0)", x.plan(row[0], 0), row[1]);
        }
    }

    private static void feedHighestFirst() {
        CHECK.sentence("Promise 7", "Twenty bytes come behind those on the tape, of each number the highest first: how many there are.");
        PlanningBench x = twelvePlots("");
        CHECK.due("feed", x.feed(0x7A6F6E65, 0x7B706C6F, 0x74732031, 0x20323B75, 0x73652037), 20);
        CHECK.due("feed", x.feed(0x3B686569, 0x67687420, 0x31323B7D, BLANKS, BLANKS), 40);
        CHECK.due("count(4)", x.count(4), 40);
        CHECK.due("adopt(40, 0)", x.adopt(40, 0), 1);
        CHECK.due("zone(1, 2, 1)", x.zone(1, 2, 1), 12);
        CHECK.due("zone(1, 1, 17)", x.zone(1, 1, 17), 1);
        for (int place = 0; place < 20; place++) {
            int[] words = {BLANKS, BLANKS, BLANKS, BLANKS, BLANKS};
            words[place / 4] |= 0xDF << 24 - 8 * (place % 4);
            CHECK.due("feed", x.feed(words[0], words[1], words[2], words[3], words[4]), 20);
            CHECK.due("adopt(20, 0)", x.adopt(20, 0), NONE);
            CHECK.due("a byte of 255 at " + place, x.fault(), place);
        }
        CHECK.due("feed of negative numbers", x.feed(-1, Bench.MIN, -1, Bench.MIN, -1), 20);
    }

    private static void feedMoreThanSixHundred() {
        CHECK.sentence("Promise 7", "NONE, doing nothing: there would be more than 600.");
        PlanningBench x = new PlanningBench();
        Bench.plot(x, 0, 0, 5, 0, 0, 5);
        for (int i = 1; i <= 29; i++) {
            x.feed(BLANKS, BLANKS, BLANKS, BLANKS, BLANKS);
        }
        CHECK.due("the 30th", x.feed(0x7A6F6E65, 0x7B706C6F, 0x74732030, 0x3B757365, 0x20373B7D), 600);
        CHECK.due("the 31st", x.feed(0, 0, 0, 0, 0), NONE);
        CHECK.due("the 32nd", x.feed(-1, -1, -1, -1, -1), NONE);
        CHECK.due("count(4)", x.count(4), 600);
        CHECK.due("adopt(600, 0)", x.adopt(600, 0), 0);
        CHECK.due("zone(0, 0, 17)", x.zone(0, 0, 17), 1);
        CHECK.due("a feed behind that", x.feed(BLANKS, BLANKS, BLANKS, BLANKS, BLANKS), 20);
    }

    private static void adoptTheFirstBytes() {
        CHECK.sentence("Promise 8", "The first n bytes of the tape (which is empty then) are a PLAN");
        PlanningBench x = twelvePlots("");
        Bench.feed(x, "zone{plots 1;}zone{plots 2;}");
        CHECK.due("adopt(14, 0)", x.adopt(14, 0), 1);
        CHECK.due("in the first n", x.zone(1, 1, 0), 0);
        CHECK.due("behind the first n", x.zone(1, 2, 0), NONE);
        CHECK.due("count(4)", x.count(4), 0);
        Bench.feed(x, "nonsense");
        CHECK.due("adopt(0, 0)", x.adopt(0, 0), 2);
        CHECK.due("count(4)", x.count(4), 0);
        CHECK.due("adopt(0, 0) of an empty tape", x.adopt(0, 0), 3);
        Bench.feed(x, "zone{plots 3;}      ");
        CHECK.due("adopt(20, 0) of twenty bytes", x.adopt(20, 0), 4);
        CHECK.due("zone(4, 3, 0)", x.zone(4, 3, 0), 0);
    }

    private static void adoptFromAnyDay() {
        CHECK.sentence("Promise 8", "ADOPTED from a day on (0 to 9,999, behind TODAY or not)");
        PlanningBench x = new PlanningBench();
        x.day(50);
        CHECK.due("adopt(0, 9999)", x.adopt(0, 9999), 0);
        CHECK.due("adopt(0, 51)", x.adopt(0, 51), 1);
        CHECK.due("adopt(0, 50)", x.adopt(0, 50), 2);
        CHECK.due("adopt(0, 49)", x.adopt(0, 49), 3);
        CHECK.due("adopt(0, 0)", x.adopt(0, 0), 4);
        int[][] rows = {{0, 4}, {48, 4}, {49, 3}, {50, 2}, {51, 1}, {9998, 1}, {9999, 0}};
        for (int[] row : rows) {
            CHECK.due("plan(" + row[0] + ", 50)", x.plan(row[0], 50), row[1]);
        }
    }

    private static void adoptAsKnown() {
        CHECK.sentence("Promise 8", "as known from TODAY on: its number.");
        PlanningBench x = new PlanningBench();
        CHECK.due("adopt(0, 0)", x.adopt(0, 0), 0);
        x.day(50);
        CHECK.due("adopt(0, 0)", x.adopt(0, 0), 1);
        CHECK.due("plan(0, 0)", x.plan(0, 0), 0);
        CHECK.due("plan(0, 49)", x.plan(0, 49), 0);
        CHECK.due("plan(0, 50)", x.plan(0, 50), 1);
        CHECK.due("plan(9999, 49)", x.plan(9999, 49), 0);
        CHECK.due("plan(0, 9999)", x.plan(0, 9999), 1);
    }

    private static void adoptFault() {
        CHECK.sentence("Promise 8", "NONE: a FAULT");
        PlanningBench x = new PlanningBench();
        CHECK.due("a fault", Bench.adopt(x, "zone{} x", 0), NONE);
        CHECK.due("the tape is empty then", x.count(4), 0);
        CHECK.due("no plan", x.count(2), 0);
        CHECK.due("none in force", x.plan(0, 0), NONE);
        CHECK.due("the next has its number", x.adopt(0, 0), 0);
    }

    private static void adoptRefused() {
        CHECK.sentence("Promise 8", "-2, doing nothing: n is below 0 or more than there are, no such day");
        PlanningBench x = new PlanningBench();
        Bench.plot(x, 0, 0, 5, 0, 0, 5);
        Bench.adopt(x, "   x", 0);
        Bench.feed(x, "zone{plots 0;}zone{use 1;}");
        String before = Readout.of(x);
        int[][] wrong = {
            {-1, 0}, {Bench.MIN, 0}, {41, 0}, {600, 0}, {601, 0}, {Bench.MAX, 0},
            {40, -1}, {40, 10000}, {40, Bench.MIN}, {40, Bench.MAX}, {-1, -1},
        };
        for (int[] w : wrong) {
            CHECK.due("adopt(" + w[0] + ", " + w[1] + ")", x.adopt(w[0], w[1]), -2);
        }
        CHECK.due("what is told then", Readout.of(x), before);
        CHECK.due("fault() stays", x.fault(), 3);
        CHECK.due("the tape stays", x.adopt(40, 9999), 0);
        CHECK.due("zone(0, 0, 0)", x.zone(0, 0, 0), 0);
        CHECK.due("adopt(1, 0) of an empty tape", x.adopt(1, 0), -2);
    }

    private static void adoptTwenty() {
        CHECK.sentence("Promise 8", "-3, doing nothing: there are 20.");
        PlanningBench x = new PlanningBench();
        for (int i = 0; i < 19; i++) {
            CHECK.due("plan " + i, x.adopt(0, i), i);
        }
        CHECK.due("a fault is no plan", Bench.adopt(x, "x", 0), NONE);
        CHECK.due("plan 19", x.adopt(0, 19), 19);
        Bench.feed(x, "zone{");
        String before = Readout.of(x);
        CHECK.due("plan 20", x.adopt(0, 20), -3);
        CHECK.due("plan 20 with a fault", x.adopt(5, 20), -3);
        CHECK.due("-2 is told first", x.adopt(21, 0), -2);
        CHECK.due("-2 is told first", x.adopt(0, 10000), -2);
        CHECK.due("what is told then", Readout.of(x), before);
        CHECK.due("count(4)", x.count(4), 20);
        CHECK.due("fault()", x.fault(), NONE);
        CHECK.due("plan(9999, 0)", x.plan(9999, 0), 19);
    }

    private static void faultOfTheLatest() {
        CHECK.sentence("Promise 9", "The FAULT's place of the latest adopt() that was a number or NONE; NONE: it had none.");
        PlanningBench x = new PlanningBench();
        CHECK.due("ahead of any", x.fault(), NONE);
        Bench.adopt(x, "x", 0);
        CHECK.due("at the first byte", x.fault(), 0);
        x.adopt(0, 0);
        CHECK.due("of a number", x.fault(), NONE);
        Bench.adopt(x, "  x", 0);
        CHECK.due("of NONE", x.fault(), 2);
        CHECK.due("adopt(1, 0)", x.adopt(1, 0), -2);
        CHECK.due("of that before -2", x.fault(), 2);
        Bench.adopt(x, "zone", 0);
        CHECK.due("of the next", x.fault(), 4);
    }

    private static void planOnDays() {
        CHECK.sentence("Promise 10", "The PLAN in force on a day as known on a day");
        PlanningBench x = new PlanningBench();
        x.day(10);
        x.adopt(0, 30);
        x.day(20);
        x.adopt(0, 25);
        int[][] rows = {
            {30, 9, NONE}, {30, 10, 0}, {29, 10, NONE}, {29, 19, NONE}, {29, 20, 1}, {25, 20, 1}, {24, 20, NONE},
            {30, 20, 0}, {9999, 9999, 0}, {0, 9999, NONE}, {9999, 0, NONE},
        };
        for (int[] row : rows) {
            CHECK.due("plan(" + row[0] + ", " + row[1] + ")", x.plan(row[0], row[1]), row[2]);
        }
    }

    private static void planNoSuchDays() {
        CHECK.sentence("Promise 10", "NONE: none, or no such days.");
        PlanningBench x = new PlanningBench();
        CHECK.due("plan(9999, 9999) of none", x.plan(9999, 9999), NONE);
        x.adopt(0, 0);
        int[] wrong = {-1, 10000, Bench.MIN, Bench.MAX};
        for (int w : wrong) {
            CHECK.due("plan(" + w + ", 5)", x.plan(w, 5), NONE);
            CHECK.due("plan(5, " + w + ")", x.plan(5, w), NONE);
        }
        CHECK.due("plan(5, 5)", x.plan(5, 5), 0);
    }

    private static void zoneParts() {
        CHECK.sentence("Promise 11",
            "A PLAN's ZONE for a PLOT (what 0; NONE), of that its height (1), cover (2), edge (3), shade (4) (NONE: not told), "
            + "10 + u whether USE u is one of it (1, 0).");
        PlanningBench x = twelvePlots("zone{plots 4;}zone{plots 0;height 11;cover 22;edge 33;shade 44;use 0 7 8;}");
        int[] told = {1, 11, 22, 33, 44};
        int[] untold = {0, NONE, NONE, NONE, NONE};
        for (int what = 0; what <= 4; what++) {
            CHECK.due("zone(0, 0, " + what + ")", x.zone(0, 0, what), told[what]);
            CHECK.due("zone(0, 4, " + what + ")", x.zone(0, 4, what), untold[what]);
            CHECK.due("zone(0, 5, " + what + ")", x.zone(0, 5, what), NONE);
        }
        for (int use = 0; use <= 7; use++) {
            CHECK.due("zone(0, 0, 10 + " + use + ")", x.zone(0, 0, 10 + use), use == 0 || use == 7 ? 1 : 0);
            CHECK.due("zone(0, 4, 10 + " + use + ")", x.zone(0, 4, 10 + use), 0);
            CHECK.due("zone(0, 5, 10 + " + use + ")", x.zone(0, 5, 10 + use), NONE);
        }
    }

    private static void zoneNoneSuch() {
        CHECK.sentence("Promise 11", "NONE: none such.");
        PlanningBench x = new PlanningBench();
        Bench.plot(x, 0, 0, 5, 0, 0, 5);
        Bench.adopt(x, "zone{plots 0 1 11 12;height 1;use 0 1 2 3 4 5 6 7 8 9;}", 0);
        CHECK.due("zone(0, 0, 1)", x.zone(0, 0, 1), 1);
        int[] whats = {-1, -10, 5, 9, 18, 19, Bench.MIN, Bench.MIN + 10, Bench.MAX};
        for (int what : whats) {
            CHECK.due("zone(0, 0, " + what + ")", x.zone(0, 0, what), NONE);
        }
        int[] others = {-1, 1, 11, 12, 32, Bench.MIN, Bench.MAX};
        for (int other : others) {
            for (int what = 0; what <= 10; what += 5) {
                CHECK.due("zone(" + other + ", 0, " + what + ")", x.zone(other, 0, what), NONE);
                CHECK.due("zone(0, " + other + ", " + what + ")", x.zone(0, other, what), NONE);
            }
        }
    }
}
