/** Promises 22 and 23: hold, holder. */
public final class HolderTest {
    private static final Check CHECK = new Check("HolderTest");

    public static void main(String[] args) {
        holdRefusesWrongInputs();
        holdersByDays();
        holdersOfEachPlot();
        atMostHundred();
        CHECK.finish();
    }

    private static void held(PlanningBench x, int plot, int day, int known, int want) {
        CHECK.due("holder(" + plot + ", " + day + ", " + known + ")", x.holder(plot, day, known), want);
    }

    private static void holdRefusesWrongInputs() {
        PlanningBench x = Bench.onePlot();
        x.day(10);
        int[][] wrong = {
            {1, 5, 5}, {-1, 5, 5}, {Bench.MAX, 5, 5}, {0, -1, 5}, {0, 100, 5}, {0, Bench.MIN, 5}, {0, Bench.MAX, 5},
            {0, 5, -1}, {0, 5, 11}, {0, 5, Bench.MIN}, {0, 5, Bench.MAX},
        };
        for (int[] w : wrong) {
            CHECK.due("hold " + java.util.Arrays.toString(w), x.hold(w[0], w[1], w[2]), false);
        }
        held(x, 0, 9999, 9999, Bench.NONE);
        CHECK.due("person 0", x.hold(0, 0, 0), true);
        held(x, 0, 0, 10, 0);
        CHECK.due("person 99, today", x.hold(0, 99, 10), true);
        held(x, 0, 10, 10, 99);
        held(x, 0, 9, 10, 0);
        held(x, 1, 9, 10, Bench.NONE);
        held(x, -1, 9, 10, Bench.NONE);
        held(x, Bench.MAX, 9, 10, Bench.NONE);
        held(x, 0, -1, 10, Bench.NONE);
        held(x, 0, 9, -1, Bench.NONE);
        held(x, 0, 10000, 10, Bench.NONE);
        held(x, 0, 9, 10000, Bench.NONE);
        held(x, 0, 9999, 9999, 99);
    }

    private static void holdersByDays() {
        PlanningBench x = Bench.onePlot();
        x.day(100);
        x.hold(0, 1, 50);
        x.hold(0, 2, 20);
        x.day(110);
        x.hold(0, 3, 20);
        x.day(120);
        x.hold(0, 4, 50);
        x.hold(0, 5, 50);
        x.hold(0, 6, 10);
        held(x, 0, 9, 120, Bench.NONE);
        held(x, 0, 10, 119, Bench.NONE);
        held(x, 0, 10, 120, 6);
        held(x, 0, 20, 100, 2);
        held(x, 0, 20, 109, 2);
        held(x, 0, 20, 110, 3);
        held(x, 0, 49, 120, 3);
        held(x, 0, 50, 100, 1);
        held(x, 0, 50, 119, 1);
        held(x, 0, 50, 120, 5);
        held(x, 0, 9999, 120, 5);
        held(x, 0, 50, 99, Bench.NONE);
    }

    private static void holdersOfEachPlot() {
        PlanningBench x = Bench.onePlot();
        Bench.square(x, 20, 0, 20);
        x.hold(0, 1, 0);
        held(x, 1, 0, 0, Bench.NONE);
        x.hold(1, 2, 0);
        held(x, 0, 0, 0, 1);
        held(x, 1, 0, 0, 2);
    }

    private static void atMostHundred() {
        PlanningBench x = Bench.onePlot();
        Bench.square(x, 20, 0, 20);
        for (int i = 0; i < 100; i++) {
            CHECK.due("hold " + i, x.hold(i % 2, i, 0), true);
        }
        CHECK.due("the 101st", x.hold(0, 5, 0), false);
        CHECK.due("the 101st of another plot", x.hold(1, 5, 0), false);
        held(x, 0, 0, 0, 98);
        held(x, 1, 0, 0, 99);
    }
}
