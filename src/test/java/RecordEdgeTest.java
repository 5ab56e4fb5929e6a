/** Promises 20 to 24, and terms 3 on what stands and who holds: each sentence that names an edge. */
public final class RecordEdgeTest {
    private static final Check CHECK = new Check("RecordEdgeTest");
    private static final int NONE = Bench.NONE;

    public static void main(String[] args) {
        doneItStandsFromToday();
        razedNotBehindToday();
        razedAsKnownFromToday();
        heldFromADayOn();
        heldByTheLatest();
        razeWhatWasDone();
        razeRefused();
        razeOfEachWay();
        standsOnDays();
        standsNotAsTold();
        holdPersons();
        holdRefused();
        holdHundred();
        holderOnDays();
        holderNotAsTold();
        countParts();
        countWhatStandsToday();
        countOthers();
        usedForAllItsCalls();
        CHECK.finish();
    }

    private static void stood(PlanningBench x, int application, int day, int known, boolean want) {
        CHECK.due("stands(" + application + ", " + day + ", " + known + ")", x.stands(application, day, known), want);
    }

    private static void held(PlanningBench x, int plot, int day, int known, int want) {
        CHECK.due("holder(" + plot + ", " + day + ", " + known + ")", x.holder(plot, day, known), want);
    }

    /** Day 100, application 0 was done on day 31. */
    private static PlanningBench standing() {
        PlanningBench x = Bench.onePlot();
        Bench.done(x, 0, 1, 1, 5, 5);
        x.day(100);
        return x;
    }

    private static void doneItStandsFromToday() {
        CHECK.sentence("Terms 3", "Done it STANDS from TODAY on.");
        PlanningBench x = Bench.onePlot();
        x.apply(0, 1, 1, 5, 5, 1, 0);
        x.day(31);
        x.decide(0);
        stood(x, 0, 9999, 9999, false);
        x.build(0);
        stood(x, 0, 9999, 9999, false);
        x.day(40);
        x.build(0);
        stood(x, 0, 39, 40, false);
        stood(x, 0, 40, 40, true);
        stood(x, 0, 40, 39, false);
        stood(x, 0, 9999, 40, true);
        stood(x, 0, 0, 9999, false);
    }

    private static void razedNotBehindToday() {
        CHECK.sentence("Terms 3", "What STANDS may be told not to have stood since a day (not behind TODAY)");
        CHECK.due("since the day behind today", standing().raze(0, 101), false);
        CHECK.due("since today", standing().raze(0, 100), true);
        CHECK.due("since the day ahead of today", standing().raze(0, 99), true);
        PlanningBench x = standing();
        x.day(9999);
        CHECK.due("since the last day", x.raze(0, 9999), true);
        stood(x, 0, 9998, 9999, true);
        stood(x, 0, 9999, 9999, false);
    }

    private static void razedAsKnownFromToday() {
        CHECK.sentence("Terms 3", "from then on it doesn't, as known from TODAY on.");
        PlanningBench x = standing();
        x.raze(0, 60);
        stood(x, 0, 59, 100, true);
        stood(x, 0, 60, 100, false);
        stood(x, 0, 61, 9999, false);
        stood(x, 0, 60, 99, true);
        stood(x, 0, 9999, 99, true);
        stood(x, 0, 9999, 100, false);
        stood(x, 0, 31, 100, true);
        stood(x, 0, 30, 100, false);
        stood(x, 0, 31, 30, false);
    }

    private static void heldFromADayOn() {
        CHECK.sentence("Terms 3", "PLOTS are held by persons: from a day on (not behind TODAY), as known from TODAY on");
        PlanningBench x = Bench.onePlot();
        x.day(10);
        CHECK.due("since the day behind today", x.hold(0, 7, 11), false);
        held(x, 0, 9999, 9999, NONE);
        CHECK.due("since today", x.hold(0, 7, 10), true);
        held(x, 0, 9, 10, NONE);
        held(x, 0, 10, 9, NONE);
        held(x, 0, 10, 10, 7);
        held(x, 0, 9999, 9999, 7);
        CHECK.due("since the first day", x.hold(0, 8, 0), true);
        held(x, 0, 0, 10, 8);
        held(x, 0, 0, 9, NONE);
        held(x, 0, 9, 10, 8);
        held(x, 0, 10, 10, 7);
    }

    private static void heldByTheLatest() {
        CHECK.sentence("Terms 3", "of several the one from the latest day, of those the one told latest.");
        PlanningBench x = Bench.onePlot();
        x.day(50);
        x.hold(0, 1, 20);
        x.hold(0, 2, 30);
        x.hold(0, 3, 20);
        x.hold(0, 4, 30);
        x.hold(0, 5, 10);
        int[][] rows = {{9, NONE}, {10, 5}, {19, 5}, {20, 3}, {29, 3}, {30, 4}, {9999, 4}};
        for (int[] row : rows) {
            held(x, 0, row[0], 50, row[1]);
        }
        x.day(51);
        x.hold(0, 6, 30);
        held(x, 0, 30, 50, 4);
        held(x, 0, 30, 51, 6);
    }

    private static void razeWhatWasDone() {
        CHECK.sentence("Promise 20", "What was done (an APPLICATION's number) didn't stand since a day: true.");
        PlanningBench x = standing();
        CHECK.due("since its own day", x.raze(0, 31), true);
        stood(x, 0, 31, 100, false);
        stood(x, 0, 31, 99, true);
        CHECK.due("it is done, for all that", x.told(0, 0), 4);
        CHECK.due("and was on its day", x.told(0, 7), 31);
        PlanningBench y = Bench.onePlot();
        Bench.done(y, 0, 1, 1, 5, 5);
        CHECK.due("on its own day, since it", y.raze(0, 31), true);
        stood(y, 0, 31, 31, false);
        CHECK.due("count(6)", y.count(6), 0);
    }

    private static void razeRefused() {
        CHECK.sentence("Promise 20",
            "False, doing nothing: it isn't done, the day is ahead of its own, behind TODAY, or such a thing was told of it.");
        PlanningBench x = standing();
        x.apply(0, 10, 10, 12, 12, 1, 0);
        String before = Readout.of(x);
        CHECK.due("ahead of its own", x.raze(0, 30), false);
        CHECK.due("behind today", x.raze(0, 101), false);
        CHECK.due("not done", x.raze(1, 100), false);
        int[] wrong = {-1, 0, 10000, Bench.MIN, Bench.MAX};
        for (int since : wrong) {
            CHECK.due("raze(0, " + since + ")", x.raze(0, since), false);
        }
        int[] none = {-1, 2, 40, Bench.MIN, Bench.MAX};
        for (int application : none) {
            CHECK.due("raze(" + application + ", 50)", x.raze(application, 50), false);
        }
        CHECK.due("what is told then", Readout.of(x), before);
        CHECK.due("told of it", x.raze(0, 50), true);
        CHECK.due("told of it again", x.raze(0, 50), false);
        CHECK.due("told of it of a day ahead", x.raze(0, 40), false);
        x.day(200);
        CHECK.due("told of it of a day behind", x.raze(0, 150), false);
        stood(x, 0, 49, 200, true);
        stood(x, 0, 50, 100, false);
    }

    private static void razeOfEachWay() {
        CHECK.sentence("Promise 20", "it isn't done");
        PlanningBench x = Bench.onePlot();
        int a = x.apply(0, 1, 1, 5, 5, 1, 0);
        int refused = x.apply(0, 1, 1, 25, 5, 1, 0);
        CHECK.due("open", x.raze(a, 0), false);
        x.day(31);
        x.decide(a);
        x.decide(refused);
        CHECK.due("permitted", x.raze(a, 31), false);
        CHECK.due("refused", x.raze(refused, 31), false);
        x.build(a);
        CHECK.due("begun", x.raze(a, 31), false);
        x.day(332);
        CHECK.due("ended", x.told(a, 0), 5);
        CHECK.due("raze of an ended one", x.raze(a, 332), false);
    }

    private static void standsOnDays() {
        CHECK.sentence("Promise 21", "Whether it stood on a day as known on a day");
        PlanningBench x = standing();
        stood(x, 0, 31, 31, true);
        stood(x, 0, 30, 31, false);
        stood(x, 0, 31, 30, false);
        stood(x, 0, 9999, 9999, true);
        stood(x, 0, 0, 0, false);
        x.raze(0, 32);
        stood(x, 0, 31, 9999, true);
        stood(x, 0, 32, 9999, false);
        stood(x, 0, 32, 99, true);
    }

    private static void standsNotAsTold() {
        CHECK.sentence("Promise 21", "false: not as told.");
        PlanningBench x = standing();
        int[] days = {-1, 10000, Bench.MIN, Bench.MAX};
        for (int day : days) {
            stood(x, 0, day, 100, false);
            stood(x, 0, 100, day, false);
        }
        int[] none = {-1, 1, 40, Bench.MIN, Bench.MAX};
        for (int application : none) {
            stood(x, application, 100, 100, false);
        }
        stood(x, 0, 100, 100, true);
    }

    private static void holdPersons() {
        CHECK.sentence("Promise 22", "A PLOT is held by a person (0 to 99) from a day on: true.");
        PlanningBench x = Bench.onePlot();
        x.day(9999);
        CHECK.due("person 0", x.hold(0, 0, 0), true);
        CHECK.due("person 99", x.hold(0, 99, 9999), true);
        held(x, 0, 9998, 9999, 0);
        held(x, 0, 9999, 9999, 99);
    }

    private static void holdRefused() {
        CHECK.sentence("Promise 22", "False, doing nothing: not as told, the day is behind TODAY, 100 were told.");
        PlanningBench x = Bench.onePlot();
        x.day(10);
        x.hold(0, 42, 3);
        String before = Readout.of(x);
        int[][] wrong = {
            {-1, 5, 5}, {1, 5, 5}, {12, 5, 5}, {Bench.MIN, 5, 5}, {Bench.MAX, 5, 5},
            {0, -1, 5}, {0, 100, 5}, {0, Bench.MIN, 5}, {0, Bench.MAX, 5},
            {0, 5, -1}, {0, 5, 11}, {0, 5, 10000}, {0, 5, Bench.MIN}, {0, 5, Bench.MAX},
        };
        for (int[] w : wrong) {
            CHECK.due("hold" + java.util.Arrays.toString(w), x.hold(w[0], w[1], w[2]), false);
        }
        CHECK.due("what is told then", Readout.of(x), before);
        held(x, 0, 5, 10, 42);
        held(x, 0, 2, 10, NONE);
    }

    private static void holdHundred() {
        CHECK.sentence("Promise 22", "100 were told.");
        PlanningBench x = Bench.onePlot();
        Bench.square(x, 20, 0, 5);
        CHECK.due("a refused one isn't told", x.hold(0, 100, 0), false);
        for (int i = 0; i < 100; i++) {
            CHECK.due("hold " + i, x.hold(i % 2, i, 0), true);
        }
        CHECK.due("the 101st", x.hold(0, 7, 0), false);
        CHECK.due("the 101st of another plot", x.hold(1, 7, 0), false);
        held(x, 0, 0, 0, 98);
        held(x, 1, 0, 0, 99);
        x.day(1);
        CHECK.due("the 101st on another day", x.hold(0, 7, 1), false);
    }

    private static void holderOnDays() {
        CHECK.sentence("Promise 23", "Who held a PLOT on a day as known on a day.");
        PlanningBench x = Bench.onePlot();
        Bench.square(x, 20, 0, 5);
        x.day(20);
        x.hold(0, 1, 10);
        x.day(30);
        x.hold(0, 2, 5);
        x.hold(1, 3, 10);
        int[][] rows = {
            {4, 9999, NONE}, {5, 9999, 2}, {5, 30, 2}, {5, 29, NONE}, {9, 30, 2}, {10, 30, 1}, {10, 20, 1}, {10, 19, NONE}, {9999, 20, 1},
        };
        for (int[] row : rows) {
            held(x, 0, row[0], row[1], row[2]);
        }
        held(x, 1, 10, 30, 3);
        held(x, 1, 10, 29, NONE);
    }

    private static void holderNotAsTold() {
        CHECK.sentence("Promise 23", "NONE: nobody, or not as told.");
        PlanningBench x = Bench.onePlot();
        held(x, 0, 0, 0, NONE);
        x.hold(0, 0, 0);
        held(x, 0, 0, 0, 0);
        int[] days = {-1, 10000, Bench.MIN, Bench.MAX};
        for (int day : days) {
            held(x, 0, day, 5, NONE);
            held(x, 0, 5, day, NONE);
        }
        int[] none = {-1, 1, 11, 12, Bench.MIN, Bench.MAX};
        for (int plot : none) {
            held(x, plot, 5, 5, NONE);
        }
    }

    private static void countParts() {
        CHECK.sentence("Promise 24",
            "0 TODAY, 1 PLOTS, 2 PLANS, 3 APPLICATIONS, 4 bytes on the tape, 5 corners of the ring that is being told, 6 what STANDS TODAY.");
        PlanningBench x = Bench.onePlot();
        Bench.square(x, 20, 0, 5);
        Bench.done(x, 0, 1, 1, 5, 5);
        x.apply(0, 1, 1, 5, 5, 1, 0);
        x.adopt(0, 0);
        x.adopt(0, 0);
        for (int i = 0; i < 3; i++) {
            x.feed(1, 2, 3, 4, 5);
        }
        for (int i = 0; i < 7; i++) {
            x.corner(1, 1);
        }
        int[] want = {31, 2, 3, 2, 60, 7, 1};
        for (int what = 0; what <= 6; what++) {
            CHECK.due("count(" + what + ")", x.count(what), want[what]);
        }
    }

    private static void countWhatStandsToday() {
        CHECK.sentence("Promise 24", "6 what STANDS TODAY.");
        PlanningBench x = Bench.onePlot();
        CHECK.due("nothing", x.count(6), 0);
        x.apply(0, 1, 1, 5, 5, 1, 0);
        x.apply(0, 1, 1, 5, 5, 1, 0);
        x.day(31);
        x.decide(0);
        x.decide(1);
        x.build(0);
        CHECK.due("begun", x.count(6), 0);
        x.build(0);
        CHECK.due("done today", x.count(6), 1);
        x.day(50);
        x.build(1);
        x.build(1);
        CHECK.due("both", x.count(6), 2);
        x.raze(0, 50);
        CHECK.due("razed since today", x.count(6), 1);
        x.day(51);
        x.raze(1, 50);
        CHECK.due("razed since its own day", x.count(6), 0);
    }

    private static void countOthers() {
        CHECK.sentence("Promise 24", "NONE for others.");
        PlanningBench x = standing();
        int[] others = {-1, 7, 8, Bench.MIN, Bench.MAX};
        for (int what : others) {
            CHECK.due("count(" + what + ")", x.count(what), NONE);
        }
    }

    /** 12 plots, 20 plans, 40 that stand, 100 holders and a full tape and ring, by 512 calls in all. */
    private static void usedForAllItsCalls() {
        CHECK.sentence("What it is", "An object is used for at most 512 calls after it has been made");
        PlanningBench x = new PlanningBench();
        int calls = 0;
        for (int i = 0; i < 12; i++) {
            Bench.plot(x, 5 * i, 0, 5 * i + 5, 0, 5 * i, 5);
            calls += 4;
        }
        Bench.adopt(x, "zone{plots 0;use 0;}", 0);
        calls += 2;
        for (int i = 1; i < 20; i++) {
            x.adopt(0, 9999);
            calls++;
        }
        for (int i = 0; i < 40; i++) {
            x.apply(0, 0, 0, 2, 2, 1, 0);
            calls++;
        }
        x.day(31);
        calls++;
        for (int i = 0; i < 40; i++) {
            x.decide(i);
            x.build(i);
            x.build(i);
            calls += 3;
        }
        for (int i = 0; i < 100; i++) {
            x.hold(i % 12, i, 31);
            calls++;
        }
        for (int i = 0; i < 30; i++) {
            x.feed(i, i, i, i, i);
            calls++;
        }
        for (int i = 0; i < 8; i++) {
            x.corner(i, i);
            calls++;
        }
        int[] want = {31, 12, 20, 40, 600, 8, 40};
        for (int what = 0; what <= 6; what++) {
            CHECK.due("count(" + what + ")", x.count(what), want[what]);
            calls++;
        }
        for (; calls < 507; calls++) {
            CHECK.due("corner " + calls, x.corner(1, 1), NONE);
        }
        CHECK.due("call 508", x.feed(1, 1, 1, 1, 1), NONE);
        CHECK.due("call 509", x.apply(0, 0, 0, 2, 2, 1, 0), NONE);
        CHECK.due("call 510", x.clash(39), 39);
        CHECK.due("call 511", x.judge(0, 2, 2, 3, 3, 1, 0, 31, 31), 1);
        CHECK.due("call 512", x.holder(3, 31, 31), 99);
    }
}
