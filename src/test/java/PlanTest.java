/** Promises 7 to 11: feed, adopt, fault, plan, zone. */
public final class PlanTest {
    private static final Check CHECK = new Check("PlanTest");

    public static void main(String[] args) {
        feedPutsBytesHighestFirst();
        feedStopsAtSixHundred();
        adoptRefusesWrongInputs();
        adoptEmptiesTheTape();
        atMostTwentyPlans();
        faultIsOfTheLatestReading();
        faultPlaces();
        textsWithoutFault();
        bytesBehindTheTextDontCount();
        textsOfTheWholeTape();
        planInForceByDays();
        zoneTellsItems();
        zoneIsTheFirstThatNames();
        itemsToldAgain();
        CHECK.finish();
    }

    private static void feedPutsBytesHighestFirst() {
        PlanningBench x = new PlanningBench();
        CHECK.due("feed", x.feed(0x7A6F6E65, 0x7B757365, 0x20373B7D, 0x20202020, 0x0A0A0A0A), 20);
        CHECK.due("count(4)", x.count(4), 20);
        CHECK.due("adopt(20, 0)", x.adopt(20, 0), 0);
        CHECK.due("feed bytes of 128 and more", x.feed(0x2020FF20, -1, -1, -1, -1), 20);
        CHECK.due("adopt(20, 0)", x.adopt(20, 0), Bench.NONE);
        CHECK.due("fault()", x.fault(), 2);
        CHECK.due("feed", x.feed(0x20202020, 0x20202020, 0x20202020, 0x20202020, 0x20202021), 20);
        CHECK.due("adopt(20, 0)", x.adopt(20, 0), Bench.NONE);
        CHECK.due("fault() at the last byte", x.fault(), 19);
    }

    private static void feedStopsAtSixHundred() {
        PlanningBench x = new PlanningBench();
        for (int i = 1; i <= 30; i++) {
            CHECK.due("feed " + i, x.feed(0x20202020, 0x20202020, 0x20202020, 0x20202020, 0x20202020), 20 * i);
        }
        CHECK.due("the 31st feed", x.feed(1, 2, 3, 4, 5), Bench.NONE);
        CHECK.due("count(4) stays 600", x.count(4), 600);
        CHECK.due("adopt(601, 0)", x.adopt(601, 0), -2);
        CHECK.due("adopt(600, 0)", x.adopt(600, 0), 0);
        CHECK.due("count(4)", x.count(4), 0);
    }

    private static void adoptRefusesWrongInputs() {
        PlanningBench x = new PlanningBench();
        Bench.feed(x, "zone{}");
        CHECK.due("adopt(-1, 0)", x.adopt(-1, 0), -2);
        CHECK.due("adopt(MIN, 0)", x.adopt(Bench.MIN, 0), -2);
        CHECK.due("adopt(21, 0)", x.adopt(21, 0), -2);
        CHECK.due("adopt(MAX, 0)", x.adopt(Bench.MAX, 0), -2);
        CHECK.due("adopt(6, -1)", x.adopt(6, -1), -2);
        CHECK.due("adopt(6, 10000)", x.adopt(6, 10000), -2);
        CHECK.due("the tape stays", x.count(4), 20);
        CHECK.due("no plans", x.count(2), 0);
        CHECK.due("adopt(6, 9999)", x.adopt(6, 9999), 0);
        CHECK.due("adopt(1, 0) of an empty tape", x.adopt(1, 0), -2);
        CHECK.due("adopt(0, 0) of an empty tape", x.adopt(0, 0), 1);
        CHECK.due("count(2)", x.count(2), 2);
    }

    private static void adoptEmptiesTheTape() {
        PlanningBench x = new PlanningBench();
        Bench.feed(x, "zone{} zone{} zone{} zone{} zone{}");
        CHECK.due("adopt the first six", x.adopt(6, 0), 0);
        CHECK.due("all the tape is empty", x.count(4), 0);
        Bench.feed(x, "zone{} nonsense, to the end");
        CHECK.due("adopt with a fault", x.adopt(20, 0), Bench.NONE);
        CHECK.due("the tape is empty, too", x.count(4), 0);
        Bench.feed(x, "zone{} nonsense");
        CHECK.due("nonsense behind the first n", x.adopt(7, 0), 1);
        Bench.feed(x, "zone{ use 1; }");
        CHECK.due("an older longer text doesn't show", x.adopt(20, 0), 2);
    }

    private static void atMostTwentyPlans() {
        PlanningBench x = new PlanningBench();
        for (int i = 0; i < 19; i++) {
            CHECK.due("plan " + i, x.adopt(0, i), i);
        }
        CHECK.due("a fault makes no plan", Bench.adopt(x, "x", 0), Bench.NONE);
        CHECK.due("plan 19", x.adopt(0, 0), 19);
        Bench.feed(x, "y");
        CHECK.due("the 21st", x.adopt(0, 0), -3);
        CHECK.due("the 21st with a fault", x.adopt(1, 0), -3);
        CHECK.due("the tape stays", x.count(4), 20);
        CHECK.due("fault() stays", x.fault(), Bench.NONE);
        CHECK.due("count(2)", x.count(2), 20);
        CHECK.due("wrong n first", x.adopt(21, 0), -2);
    }

    private static void faultIsOfTheLatestReading() {
        PlanningBench x = new PlanningBench();
        Bench.adopt(x, "  use", 0);
        CHECK.due("fault()", x.fault(), 2);
        x.adopt(-1, 0);
        CHECK.due("fault() behind -2", x.fault(), 2);
        x.day(3);
        CHECK.due("fault() on another day", x.fault(), 2);
        Bench.adopt(x, "zone", 0);
        CHECK.due("fault() of the next", x.fault(), 4);
        x.adopt(0, 0);
        CHECK.due("fault() of a plan", x.fault(), Bench.NONE);
    }

    private static void place(String text, int want) {
        CHECK.due("fault of '" + text + "'", Bench.fault(text), want);
    }

    private static void faultPlaces() {
        place("zone", 4);
        place("zone  ", 6);
        place("zone{", 5);
        place("zone{plots", 10);
        place("zone{plots 1", 12);
        place("zone{plots 1 ", 13);
        place("zone{use 1;", 11);
        place("zon", 0);
        place(" zones{}", 1);
        place("zonezone{}", 0);
        place("zone zone{}", 5);
        place("zone}", 4);
        place("}", 0);
        place(";", 0);
        place("zone{};", 6);
        place("zone{}}", 6);
        place("zone{{", 5);
        place("zone{;}", 5);
        place("zone{plots;}", 10);
        place("zone{use ;}", 9);
        place("zone{height;}", 11);
        place("zone{cover}", 10);
        place("zone{edge edge 1;}", 10);
        place("zone{height 1 2;}", 14);
        place("zone{cover 1 2;}", 13);
        place("zone{edge 1 2;}", 12);
        place("zone{shade 1 2;}", 13);
        place("zone{height 1}", 13);
        place("zone{plots 1 use 2;}", 13);
        place("zone{plots 1 2 1000;}", 15);
        place("zone{use 0000;}", 9);
        place("zone{edge 1234", 10);
        place("zone{plot 1;}", 5);
        place("zone{plotss 1;}", 5);
        place("zone{uses 1;}", 5);
        place("zone{heights 1;}", 5);
        place("zone{covers 1;}", 5);
        place("zone{edges 1;}", 5);
        place("zone{shades 1;}", 5);
        place("zone{zone 1;}", 5);
        place("zone{1;}", 5);
        place("zone{Use 1;}", 5);
        place("Zone{}", 0);
        place("zone{uSe 1;}", 5);
        place("zone{use 1,2;}", 10);
        place("zone{use -1;}", 9);
        place("zone\t{}", 4);
        place("zone{}\r\n", 6);
        place("zone{use 1\u00e9;}", 10);
        place("zone{use 1;}\u0000", 12);
        place("zone{use 1`;}", 10);
        place("zone{use 1|;}", 10);
        place("zone{use 1/;}", 10);
        place("zone{use 1:;}", 10);
        place("zone{use 1a;}", 10);
        place("zone{use1a;}", 9);
        place("zone {}zone {}zone {}zone {}zone {}zone {}zone {}zone {} zone{}", 57);
        place("zone{}zone{}zone{}zone{}zone{}zone{}zone{}zone{} zon", 49);
        place("zone{}zone{}zone{}zone{}zone{}zone{}zone{}zone{", 47);
    }

    private static void textsWithoutFault() {
        place("", Bench.NONE);
        place(" \n ", Bench.NONE);
        place("zone{}", Bench.NONE);
        place(" zone { } ", Bench.NONE);
        place("zone{plots0 1 2;use1;height1;cover2;edge3;shade4;}", Bench.NONE);
        place("zone\n{\nplots\n7\n;\n}\n", Bench.NONE);
        place("zone{plots 999;use 999 8;height 999;cover 999;edge 999;shade 999;}", Bench.NONE);
        place("zone{height 000;edge 00;cover 0;shade 007;}", Bench.NONE);
        place("zone{use 1;use 1;use 1;plots 1 1 1;}", Bench.NONE);
        place("zone{}zone{}zone{}zone{}zone{}zone{}zone{}zone{} ", Bench.NONE);
    }

    /** The text is cut everywhere: what the tape holds behind the cut must not be read. */
    private static void bytesBehindTheTextDontCount() {
        String text = "zone{plots 0 123;use1;height 7;}zone{}";
        for (int n = 0; n <= text.length(); n++) {
            PlanningBench x = new PlanningBench();
            Bench.feed(x, text + "zone");
            boolean whole = n == 0 || n == 32 || n == 38;
            boolean inWord = n > 0 && n < 4 || n > 5 && n < 10 || n > 17 && n < 20 || n > 22 && n < 28 || n > 32 && n < 36;
            int wordStart = n < 5 ? 0 : n < 12 ? 5 : n < 21 ? 17 : n < 30 ? 22 : 32;
            CHECK.due("adopt(" + n + ", 0)", x.adopt(n, 0), whole ? 0 : Bench.NONE);
            CHECK.due("fault of the first " + n, x.fault(), whole ? Bench.NONE : inWord ? wordStart : n);
        }
    }

    private static void textsOfTheWholeTape() {
        String[] ends = {"zone", "zone{", "zone{use", "zone{use 1", "zone{use 123", "zone{use 1;", "zone{height", "zone{height 1"};
        for (String end : ends) {
            place(" ".repeat(600 - end.length()) + end, 600);
        }
        place(" ".repeat(599) + "z", 599);
        place(" ".repeat(594) + "zone{}", Bench.NONE);
        place("zone{use" + " 1".repeat(295) + ";}", Bench.NONE);
        place("zone{use" + " 1".repeat(296), 600);
        place("zone{" + "use1;".repeat(118) + "    }", Bench.NONE);
        place("zone{" + "use1;".repeat(119), 600);
    }

    private static void planInForceByDays() {
        PlanningBench x = new PlanningBench();
        CHECK.due("no plan", x.plan(9999, 9999), Bench.NONE);
        x.adopt(0, 100);
        x.adopt(0, 50);
        x.day(10);
        x.adopt(0, 50);
        x.day(20);
        x.adopt(0, 5);
        x.adopt(0, 9999);
        int[][] rows = {
            {0, 9999, -1}, {4, 9999, -1}, {5, 9999, 3}, {5, 20, 3}, {5, 19, -1}, {49, 19, -1}, {49, 20, 3},
            {50, 9, 1}, {50, 10, 2}, {50, 0, 1}, {99, 20, 2}, {99, 9, 1}, {100, 0, 0}, {100, 20, 0},
            {9998, 20, 0}, {9999, 20, 4}, {9999, 19, 0},
            {-1, 20, -1}, {100, -1, -1}, {10000, 20, -1}, {100, 10000, -1},
            {Bench.MAX, Bench.MAX, -1}, {Bench.MIN, Bench.MIN, -1},
        };
        for (int[] row : rows) {
            CHECK.due("plan(" + row[0] + ", " + row[1] + ")", x.plan(row[0], row[1]), row[2]);
        }
    }

    private static void zoneTellsItems() {
        PlanningBench x = new PlanningBench();
        Bench.square(x, 0, 0, 10);
        Bench.square(x, 10, 0, 10);
        Bench.square(x, 20, 0, 10);
        Bench.adopt(x, "zone{plots 0;use 0 7 3 8 10;height 12;cover 345;edge 0;shade 007;} zone{plots 1;}", 0);
        int[] first = {0, 12, 345, 0, 7};
        for (int what = 0; what <= 4; what++) {
            CHECK.due("zone(0, 0, " + what + ")", x.zone(0, 0, what), first[what]);
            CHECK.due("zone(0, 1, " + what + ")", x.zone(0, 1, what), what == 0 ? 1 : Bench.NONE);
            CHECK.due("zone(0, 2, " + what + ")", x.zone(0, 2, what), Bench.NONE);
        }
        for (int use = 0; use <= 7; use++) {
            CHECK.due("zone(0, 0, " + (10 + use) + ")", x.zone(0, 0, 10 + use), use == 0 || use == 3 || use == 7 ? 1 : 0);
            CHECK.due("zone(0, 1, " + (10 + use) + ")", x.zone(0, 1, 10 + use), 0);
            CHECK.due("zone(0, 2, " + (10 + use) + ")", x.zone(0, 2, 10 + use), Bench.NONE);
        }
        int[] wrong = {-1, 5, 6, 9, 18, 20, Bench.MIN, Bench.MAX, Bench.MIN + 10};
        for (int what : wrong) {
            CHECK.due("zone(0, 0, " + what + ")", x.zone(0, 0, what), Bench.NONE);
        }
        CHECK.due("zone(-1, 0, 0)", x.zone(-1, 0, 0), Bench.NONE);
        CHECK.due("zone(1, 0, 0)", x.zone(1, 0, 0), Bench.NONE);
        CHECK.due("zone(MAX, 0, 0)", x.zone(Bench.MAX, 0, 0), Bench.NONE);
        CHECK.due("zone(0, -1, 0)", x.zone(0, -1, 0), Bench.NONE);
        CHECK.due("zone(0, 3, 0)", x.zone(0, 3, 0), Bench.NONE);
        CHECK.due("zone(0, MIN, 0)", x.zone(0, Bench.MIN, 0), Bench.NONE);
        CHECK.due("zone(0, 32, 0)", x.zone(0, 32, 0), Bench.NONE);
    }

    private static void zoneIsTheFirstThatNames() {
        PlanningBench x = new PlanningBench();
        Bench.square(x, 0, 0, 10);
        Bench.square(x, 10, 0, 10);
        Bench.adopt(x, "zone{height 9;}zone{plots 5 1;height 1;}zone{plots 0 1 2;height 2;}zone{plots 0;}", 0);
        CHECK.due("zone(0, 0, 0)", x.zone(0, 0, 0), 2);
        CHECK.due("zone(0, 0, 1)", x.zone(0, 0, 1), 2);
        CHECK.due("zone(0, 1, 0)", x.zone(0, 1, 0), 1);
        CHECK.due("zone(0, 1, 1)", x.zone(0, 1, 1), 1);
        CHECK.due("plot 2 isn't told yet", x.zone(0, 2, 0), Bench.NONE);
        Bench.square(x, 20, 0, 10);
        CHECK.due("now it is", x.zone(0, 2, 0), 2);
        PlanningBench y = new PlanningBench();
        for (int i = 0; i < 12; i++) {
            Bench.square(y, 5 * i, 0, 5);
        }
        Bench.adopt(y, "zone{plots 12 13 27 32 43 999;}zone{plots 11;}", 0);
        CHECK.due("zone(0, 11, 0)", y.zone(0, 11, 0), 1);
        CHECK.due("zone(0, 0, 0)", y.zone(0, 0, 0), Bench.NONE);
        CHECK.due("zone(0, 1, 0)", y.zone(0, 1, 0), Bench.NONE);
    }

    private static void itemsToldAgain() {
        PlanningBench x = new PlanningBench();
        Bench.square(x, 0, 0, 10);
        Bench.square(x, 10, 0, 10);
        Bench.adopt(x, "zone{plots 0;use 1 2;height 5;cover 5;plots 1;use 3;height 6;cover 7;edge 1;shade 1;edge 8;shade 9;}", 0);
        CHECK.due("plots take the place", x.zone(0, 0, 0), Bench.NONE);
        CHECK.due("the latest plots", x.zone(0, 1, 0), 0);
        CHECK.due("height", x.zone(0, 1, 1), 6);
        CHECK.due("cover", x.zone(0, 1, 2), 7);
        CHECK.due("edge", x.zone(0, 1, 3), 8);
        CHECK.due("shade", x.zone(0, 1, 4), 9);
        CHECK.due("use 1", x.zone(0, 1, 11), 0);
        CHECK.due("use 3", x.zone(0, 1, 13), 1);
    }
}
