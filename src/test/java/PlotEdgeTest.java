/** Terms 1 on days and plots, promises 1 to 6: each sentence that names an edge. */
public final class PlotEdgeTest {
    private static final Check CHECK = new Check("PlotEdgeTest");
    private static final int NONE = Bench.NONE;

    public static void main(String[] args) {
        daysEnd();
        plotsAtMostTwelve();
        cornersThreeToEight();
        placesEnd();
        roundToTheLeftStrictly();
        roundToTheLeftOverTheEnd();
        insidesApart();
        insidesApartByTheLeast();
        noneIsMinusOne();
        newObject();
        laterDay();
        notALaterDay();
        cornersBehindEachOther();
        cornerRefused();
        plotNumbers();
        ringEmptyInAnyCase();
        plotRefused();
        ringParts();
        ringNoneSuch();
        nearAtMost();
        nearByTheLeast();
        nearAtEachSide();
        nearNotAsTold();
        CHECK.finish();
    }

    private static void daysEnd() {
        CHECK.sentence("Terms 1", "DAYS 0 to 9,999; TODAY is 0 at first.");
        PlanningBench x = new PlanningBench();
        CHECK.due("count(0) at first", x.count(0), 0);
        CHECK.due("adopt(0, 0)", x.adopt(0, 0), 0);
        CHECK.due("plan(0, 0)", x.plan(0, 0), 0);
        CHECK.due("plan(9999, 9999)", x.plan(9999, 9999), 0);
        CHECK.due("plan(-1, 0)", x.plan(-1, 0), NONE);
        CHECK.due("plan(10000, 0)", x.plan(10000, 0), NONE);
        CHECK.due("day(10000)", x.day(10000), false);
        CHECK.due("day(9999)", x.day(9999), true);
        CHECK.due("count(0) at last", x.count(0), 9999);
    }

    private static void plotsAtMostTwelve() {
        CHECK.sentence("Terms 1", "PLOTS, at most 12");
        PlanningBench x = new PlanningBench();
        for (int i = 0; i < 12; i++) {
            CHECK.due("plot " + i, Bench.plot(x, 5 * i, 0, 5 * i + 5, 0, 5 * i, 5), i);
        }
        CHECK.due("plot 12", Bench.plot(x, 0, 20, 5, 20, 0, 25), NONE);
        CHECK.due("count(1)", x.count(1), 12);
        CHECK.due("ring(11, 0)", x.ring(11, 0), 3);
        CHECK.due("ring(12, 0)", x.ring(12, 0), NONE);
    }

    private static void cornersThreeToEight() {
        CHECK.sentence("Terms 1", "are rings of 3 to 8 corners");
        PlanningBench x = new PlanningBench();
        CHECK.due("2 corners", Bench.plot(x, 0, 0, 5, 0), NONE);
        CHECK.due("3 corners", Bench.plot(x, 0, 0, 5, 0, 0, 5), 0);
        CHECK.due("8 corners", Bench.plot(x, 20, 10, 30, 10, 35, 15, 35, 25, 30, 30, 20, 30, 15, 25, 15, 15), 1);
        CHECK.due("ring(1, 0)", x.ring(1, 0), 8);
        CHECK.due("a 9th that would stand between the 8th and the 1st",
            Bench.plot(x, 44, 10, 54, 10, 60, 16, 60, 26, 54, 32, 44, 32, 38, 26, 38, 16, 40, 12), 2);
        CHECK.due("ring(2, 0)", x.ring(2, 0), 8);
        CHECK.due("ring(2, 18)", x.ring(2, 18), NONE);
    }

    private static void placesEnd() {
        CHECK.sentence("Terms 1", "(x to the right, y up, both 0 to 63)");
        PlanningBench x = new PlanningBench();
        int[][] wrong = {{-1, 5}, {64, 5}, {5, -1}, {5, 64}, {Bench.MIN, 5}, {Bench.MAX, 5}, {5, Bench.MIN}, {5, Bench.MAX}};
        for (int[] w : wrong) {
            CHECK.due("corner(" + w[0] + ", " + w[1] + ")", x.corner(w[0], w[1]), NONE);
        }
        CHECK.due("all of it", Bench.plot(x, 0, 0, 63, 0, 63, 63, 0, 63), 0);
        CHECK.due("twice its area", x.ring(0, 1), 7938);
    }

    private static void left(PlanningBench x, boolean want, int... corners) {
        int number = x.count(1);
        CHECK.due("plot of " + java.util.Arrays.toString(corners), Bench.plot(x, corners), want ? number : NONE);
    }

    private static void roundToTheLeftStrictly() {
        CHECK.sentence("Terms 1", "each going round to the left (a corner is strictly to the left of each side that it isn't an end of)");
        PlanningBench x = new PlanningBench();
        left(x, false, 0, 0, 63, 62, 62, 61);
        left(x, false, 0, 0, 62, 61, 62, 61);
        left(x, false, 0, 0, 31, 31, 62, 62);
        left(x, false, 0, 0, 5, 0, 10, 0, 0, 10);
        left(x, false, 0, 0, 10, 0, 10, 0, 0, 10);
        left(x, false, 7, 7, 7, 7, 7, 7);
        left(x, false, 0, 0, 10, 0, 4, 4, 0, 10);
        left(x, false, 0, 0, 10, 10, 10, 0, 0, 10);
        left(x, false, 30, 50, 18, 12, 50, 36, 10, 36, 42, 12);
        left(x, false, 0, 0, 9, 0, 0, 9, 0, 0, 9, 0, 0, 9);
        left(x, true, 0, 0, 62, 61, 63, 62);
        CHECK.due("twice the least area", x.ring(0, 1), 1);
        left(new PlanningBench(), true, 0, 0, 30, 0, 63, 1, 0, 1);
    }

    /** The side from the last corner to the first one is a side, too. */
    private static void roundToTheLeftOverTheEnd() {
        CHECK.sentence("Terms 1", "each going round to the left (a corner is strictly to the left of each side that it isn't an end of)");
        PlanningBench x = new PlanningBench();
        left(x, false, 0, 0, 10, 0, 0, 10, 0, 5);
        left(x, false, 0, 5, 0, 0, 10, 0, 0, 10);
        left(x, false, 5, 0, 10, 0, 0, 10, 0, 0);
        left(x, false, 0, 0, 10, 0, 0, 10, 0, 0);
        left(x, false, 0, 0, 10, 0, 10, 10, 0, 10, 1, 5);
        left(x, false, 1, 5, 0, 0, 10, 0, 10, 10, 0, 10);
        left(x, true, 1, 5, 2, 0, 10, 0, 10, 10, 2, 10);
    }

    private static void insidesApart() {
        CHECK.sentence("Terms 1", "the insides of no two have a point in common");
        PlanningBench x = new PlanningBench();
        left(x, true, 20, 20, 40, 20, 40, 40, 20, 40);
        left(x, false, 20, 20, 40, 20, 40, 40, 20, 40);
        left(x, false, 30, 30, 31, 30, 30, 31);
        left(x, false, 0, 0, 63, 0, 63, 63, 0, 63);
        left(x, false, 10, 29, 60, 29, 60, 31, 10, 31);
        left(x, false, 29, 10, 31, 10, 31, 60, 29, 60);
        left(x, false, 39, 20, 50, 20, 50, 40, 39, 40);
        left(x, false, 20, 20, 40, 20, 30, 21);
        left(x, true, 40, 20, 50, 20, 50, 40, 40, 40);
        left(x, true, 10, 30, 20, 25, 20, 35);
        left(x, true, 40, 40, 50, 41, 41, 50);
        left(x, true, 20, 20, 15, 20, 20, 15);
        CHECK.due("count(1)", x.count(1), 5);
    }

    private static void insidesApartByTheLeast() {
        CHECK.sentence("Terms 1", "the insides of no two have a point in common");
        PlanningBench x = new PlanningBench();
        left(x, true, 0, 0, 63, 0, 63, 62);
        left(x, false, 0, 0, 62, 61, 0, 63);
        left(x, true, 0, 0, 61, 61, 0, 63);
        left(x, false, 63, 61, 63, 63, 62, 63);
        left(x, true, 63, 62, 63, 63, 62, 63);
    }

    private static void noneIsMinusOne() {
        CHECK.sentence("The constants", "There is none.");
        CHECK.due("NONE", PlanningBench.NONE, -1);
    }

    private static void newObject() {
        CHECK.sentence("Promise 1", "TODAY is 0; no plots, plans, applications.");
        PlanningBench x = new PlanningBench();
        for (int what = 0; what <= 6; what++) {
            CHECK.due("count(" + what + ")", x.count(what), 0);
        }
        CHECK.due("ring(0, 0)", x.ring(0, 0), NONE);
        CHECK.due("near(0, 1, 100)", x.near(0, 1, 100), false);
        CHECK.due("fault()", x.fault(), NONE);
        CHECK.due("plan(0, 0)", x.plan(0, 0), NONE);
        CHECK.due("zone(0, 0, 0)", x.zone(0, 0, 0), NONE);
        CHECK.due("judge", x.judge(0, 1, 1, 2, 2, 1, 0, 0, 0), NONE);
        CHECK.due("apply", x.apply(0, 1, 1, 2, 2, 1, 0), NONE);
        CHECK.due("object(0, 0)", x.object(0, 0), -4);
        CHECK.due("decide(0)", x.decide(0), NONE);
        CHECK.due("build(0)", x.build(0), NONE);
        CHECK.due("appeal(0)", x.appeal(0), NONE);
        CHECK.due("clash(0)", x.clash(0), NONE);
        CHECK.due("told(0, 0)", x.told(0, 0), NONE);
        CHECK.due("raze(0, 0)", x.raze(0, 0), false);
        CHECK.due("stands(0, 0, 0)", x.stands(0, 0, 0), false);
        CHECK.due("hold(0, 0, 0)", x.hold(0, 0, 0), false);
        CHECK.due("holder(0, 0, 0)", x.holder(0, 0, 0), NONE);
        CHECK.due("plot()", x.plot(), NONE);
        CHECK.due("adopt(1, 0)", x.adopt(1, 0), -2);
    }

    private static void laterDay() {
        CHECK.sentence("Promise 2", "TODAY becomes a later day (up to 9,999): true");
        PlanningBench x = new PlanningBench();
        CHECK.due("by one", x.day(1), true);
        CHECK.due("count(0)", x.count(0), 1);
        CHECK.due("to the day ahead of the last", x.day(9998), true);
        CHECK.due("to the last", x.day(9999), true);
        CHECK.due("count(0)", x.count(0), 9999);
        CHECK.due("to the last at once", new PlanningBench().day(9999), true);
    }

    private static void notALaterDay() {
        CHECK.sentence("Promise 2", "false, doing nothing: it isn't.");
        PlanningBench x = new PlanningBench();
        CHECK.due("day(0) on the first day", x.day(0), false);
        x.day(100);
        int[] wrong = {100, 99, 0, -1, 10000, Bench.MIN, Bench.MAX};
        for (int d : wrong) {
            CHECK.due("day(" + d + ")", x.day(d), false);
            CHECK.due("count(0)", x.count(0), 100);
        }
        x.day(9999);
        CHECK.due("day(9999) on the last day", x.day(9999), false);
        CHECK.due("day(10000) on the last day", x.day(10000), false);
        CHECK.due("count(0)", x.count(0), 9999);
    }

    private static void cornersBehindEachOther() {
        CHECK.sentence("Promise 3", "A corner comes behind those of the ring that is being told: how many.");
        PlanningBench x = new PlanningBench();
        int[] corners = {20, 10, 30, 10, 35, 15, 35, 25, 30, 30, 20, 30, 15, 25, 15, 15};
        for (int i = 0; i < 8; i++) {
            CHECK.due("corner " + i, x.corner(corners[2 * i], corners[2 * i + 1]), i + 1);
            CHECK.due("count(5)", x.count(5), i + 1);
        }
        CHECK.due("plot()", x.plot(), 0);
        for (int i = 0; i < 16; i++) {
            CHECK.due("ring(0, " + (2 + i) + ")", x.ring(0, 2 + i), corners[i]);
        }
        CHECK.due("the first of the next", x.corner(1, 1), 1);
    }

    private static void cornerRefused() {
        CHECK.sentence("Promise 3", "NONE, doing nothing: not as told, there are 8.");
        PlanningBench x = new PlanningBench();
        CHECK.due("corner(64, 64) as the first", x.corner(64, 64), NONE);
        CHECK.due("count(5)", x.count(5), 0);
        x.corner(20, 10);
        x.corner(30, 10);
        CHECK.due("corner(30, -1)", x.corner(30, -1), NONE);
        CHECK.due("count(5)", x.count(5), 2);
        x.corner(35, 15);
        x.corner(35, 25);
        x.corner(30, 30);
        x.corner(20, 30);
        x.corner(15, 25);
        CHECK.due("the 8th", x.corner(15, 15), 8);
        CHECK.due("the 9th", x.corner(16, 12), NONE);
        CHECK.due("the 9th, not as told", x.corner(-1, 64), NONE);
        CHECK.due("count(5)", x.count(5), 8);
        CHECK.due("plot()", x.plot(), 0);
        CHECK.due("the third corner's x", x.ring(0, 6), 35);
        CHECK.due("the third corner's y", x.ring(0, 7), 15);
        CHECK.due("the eighth corner's y", x.ring(0, 17), 15);
        CHECK.due("the first corner's x", x.ring(0, 2), 20);
    }

    private static void plotNumbers() {
        CHECK.sentence("Promise 4", "The ring that was told is a PLOT: its number");
        PlanningBench x = new PlanningBench();
        CHECK.due("refused", x.plot(), NONE);
        CHECK.due("the first", Bench.square(x, 0, 0, 5), 0);
        CHECK.due("refused", Bench.square(x, 0, 0, 5), NONE);
        CHECK.due("the second: a refused one takes no number", Bench.square(x, 5, 0, 5), 1);
        CHECK.due("ring(1, 2)", x.ring(1, 2), 5);
    }

    private static void ringEmptyInAnyCase() {
        CHECK.sentence("Promise 4", "the ring is empty again, in any case.");
        PlanningBench x = new PlanningBench();
        CHECK.due("a plot", Bench.square(x, 0, 0, 5), 0);
        CHECK.due("count(5)", x.count(5), 0);
        CHECK.due("two corners", Bench.plot(x, 10, 10, 15, 10), NONE);
        CHECK.due("count(5)", x.count(5), 0);
        CHECK.due("to the right", Bench.plot(x, 10, 10, 10, 15, 15, 10), NONE);
        CHECK.due("count(5)", x.count(5), 0);
        CHECK.due("over another one", Bench.square(x, 4, 4, 5), NONE);
        CHECK.due("count(5)", x.count(5), 0);
        for (int i = 1; i < 12; i++) {
            Bench.plot(x, 5 * i, 0, 5 * i + 5, 0, 5 * i, 5);
        }
        CHECK.due("a 13th", Bench.square(x, 30, 30, 5), NONE);
        CHECK.due("count(5)", x.count(5), 0);
        CHECK.due("the next corner is the first", x.corner(30, 30), 1);
    }

    private static void plotRefused() {
        CHECK.sentence("Promise 4",
            "NONE: it can't be one (less than 3 corners, not round to the left, it overlaps another one), or there are 12.");
        PlanningBench x = new PlanningBench();
        CHECK.due("0 corners", x.plot(), NONE);
        CHECK.due("1 corner", Bench.plot(x, 1, 1), NONE);
        CHECK.due("2 corners", Bench.plot(x, 1, 1, 5, 5), NONE);
        CHECK.due("round to the right", Bench.plot(x, 0, 0, 0, 5, 5, 0), NONE);
        for (int i = 0; i < 11; i++) {
            Bench.plot(x, 5 * i, 0, 5 * i + 5, 0, 5 * i, 5);
        }
        CHECK.due("over the first", Bench.plot(x, 0, 4, 1, 4, 0, 10), NONE);
        CHECK.due("over the 11th", Bench.plot(x, 50, 4, 51, 4, 50, 10), NONE);
        CHECK.due("count(1)", x.count(1), 11);
        CHECK.due("the 12th", Bench.square(x, 0, 10, 5), 11);
        CHECK.due("the 13th", Bench.square(x, 10, 10, 5), NONE);
        CHECK.due("count(1)", x.count(1), 12);
    }

    private static void ringParts() {
        CHECK.sentence("Promise 5", "Of a PLOT: 0 corners, 1 twice its area, 2 + 2 k and 3 + 2 k x and y of corner k.");
        PlanningBench x = new PlanningBench();
        Bench.plot(x, 1, 2, 8, 3, 4, 9);
        int[] want = {3, 46, 1, 2, 8, 3, 4, 9, NONE, NONE};
        for (int what = 0; what < want.length; what++) {
            CHECK.due("ring(0, " + what + ")", x.ring(0, what), want[what]);
        }
        Bench.plot(x, 20, 10, 30, 10, 35, 15, 35, 25, 30, 30, 20, 30, 15, 25, 15, 15);
        int[] eight = {8, 700, 20, 10, 30, 10, 35, 15, 35, 25, 30, 30, 20, 30, 15, 25, 15, 15, NONE, NONE};
        for (int what = 0; what < eight.length; what++) {
            CHECK.due("ring(1, " + what + ")", x.ring(1, what), eight[what]);
        }
    }

    private static void ringNoneSuch() {
        CHECK.sentence("Promise 5", "NONE where there is none such.");
        PlanningBench x = new PlanningBench();
        Bench.square(x, 0, 0, 5);
        int[] wrong = {-1, -2, 10, 11, 17, 18, Bench.MIN, Bench.MIN + 1, Bench.MAX - 1, Bench.MAX};
        for (int what : wrong) {
            CHECK.due("ring(0, " + what + ")", x.ring(0, what), NONE);
        }
        int[] plots = {-1, 1, 11, 12, Bench.MIN, Bench.MAX};
        for (int plot : plots) {
            CHECK.due("ring(" + plot + ", 0)", x.ring(plot, 0), NONE);
            CHECK.due("ring(" + plot + ", 2)", x.ring(plot, 2), NONE);
        }
        x.corner(10, 10);
        CHECK.due("of a ring that is being told", x.ring(1, 0), NONE);
    }

    private static void near(PlanningBench x, int a, int b, int distance, boolean want) {
        CHECK.due("near(" + a + ", " + b + ", " + distance + ")", x.near(a, b, distance), want);
        CHECK.due("near(" + b + ", " + a + ", " + distance + ")", x.near(b, a, distance), want);
    }

    private static void nearAtMost() {
        CHECK.sentence("Promise 6", "Whether two unlike PLOTS' rings have a distance of so much (0 to 100) at most.");
        PlanningBench x = new PlanningBench();
        Bench.square(x, 0, 0, 10);
        Bench.square(x, 10, 10, 2);
        Bench.plot(x, 22, 26, 30, 26, 22, 30);
        Bench.plot(x, 30, 11, 40, 11, 40, 15);
        near(x, 0, 1, 0, true);
        near(x, 0, 2, 19, false);
        near(x, 0, 2, 20, true);
        near(x, 0, 3, 20, false);
        near(x, 0, 3, 21, true);
        PlanningBench far = new PlanningBench();
        Bench.plot(far, 0, 0, 1, 0, 0, 1);
        Bench.plot(far, 63, 63, 62, 63, 63, 62);
        near(far, 0, 1, 0, false);
        near(far, 0, 1, 87, false);
        near(far, 0, 1, 88, true);
        near(far, 0, 1, 100, true);
    }

    private static void nearByTheLeast() {
        CHECK.sentence("Promise 6", "Whether two unlike PLOTS' rings have a distance of so much (0 to 100) at most.");
        PlanningBench x = new PlanningBench();
        Bench.plot(x, 0, 0, 63, 62, 0, 62);
        Bench.plot(x, 62, 61, 10, 0, 63, 0);
        near(x, 0, 1, 0, false);
        near(x, 0, 1, 1, true);
        PlanningBench y = new PlanningBench();
        Bench.plot(y, 0, 0, 30, 0, 0, 40);
        Bench.plot(y, 28, 36, 40, 40, 30, 44);
        Bench.plot(y, 19, 16, 40, 16, 40, 20);
        near(y, 0, 1, 19, false);
        near(y, 0, 1, 20, true);
        near(y, 0, 2, 0, false);
        near(y, 0, 2, 1, true);
    }

    /** A needle at 1 from the middle of each side, whichever corner the rings were begun with. */
    private static void nearAtEachSide() {
        CHECK.sentence("Promise 6", "Whether two unlike PLOTS' rings have a distance of so much (0 to 100) at most.");
        int[] square = {20, 20, 40, 20, 40, 40, 20, 40};
        int[][] needles = {
            {30, 19, 29, 9, 31, 9}, {41, 30, 51, 29, 51, 31}, {30, 41, 31, 51, 29, 51}, {19, 30, 9, 31, 9, 29},
        };
        for (int turn = 0; turn < 4; turn++) {
            PlanningBench x = new PlanningBench();
            Bench.plot(x, turned(square, turn));
            for (int i = 0; i < 4; i++) {
                CHECK.due("needle " + i, Bench.plot(x, turned(needles[i], turn % 3)), i + 1);
                near(x, 0, i + 1, 0, false);
                near(x, 0, i + 1, 1, true);
            }
        }
    }

    private static int[] turned(int[] corners, int by) {
        int[] turned = new int[corners.length];
        for (int i = 0; i < corners.length; i++) {
            turned[i] = corners[(i + 2 * by) % corners.length];
        }
        return turned;
    }

    private static void nearNotAsTold() {
        CHECK.sentence("Promise 6", "False: not as told.");
        PlanningBench x = new PlanningBench();
        Bench.square(x, 0, 0, 10);
        Bench.square(x, 10, 0, 10);
        near(x, 0, 1, 100, true);
        near(x, 0, 1, 101, false);
        near(x, 0, 1, -1, false);
        near(x, 0, 1, Bench.MIN, false);
        near(x, 0, 1, Bench.MAX, false);
        near(x, 0, 0, 0, false);
        near(x, 1, 1, 100, false);
        near(x, 1, 2, 100, false);
        near(x, 0, -1, 100, false);
        near(x, -1, -2, 100, false);
        near(x, Bench.MIN, Bench.MAX, 100, false);
    }
}
