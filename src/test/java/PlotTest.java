/** Promises 3 to 6: corner, plot, ring, near. */
public final class PlotTest {
    private static final Check CHECK = new Check("PlotTest");

    public static void main(String[] args) {
        cornersAreCounted();
        plotNeedsThreeCornersToTheLeft();
        plotMustNotOverlap();
        atMostTwelvePlots();
        ringTellsCornersAndArea();
        nearIsExact();
        nearRefusesWrongInputs();
        CHECK.finish();
    }

    private static void cornersAreCounted() {
        PlanningBench x = new PlanningBench();
        int[][] wrong = {{-1, 0}, {0, -1}, {64, 0}, {0, 64}, {Bench.MIN, 0}, {0, Bench.MAX}};
        for (int[] w : wrong) {
            CHECK.due("corner(" + w[0] + ", " + w[1] + ")", x.corner(w[0], w[1]), Bench.NONE);
        }
        CHECK.due("count(5) behind wrong ones", x.count(5), 0);
        for (int i = 1; i <= 8; i++) {
            CHECK.due("corner " + i, x.corner(i % 2 == 0 ? 0 : 63, i % 3 == 0 ? 63 : 0), i);
        }
        CHECK.due("the 9th corner", x.corner(5, 5), Bench.NONE);
        CHECK.due("count(5) stays 8", x.count(5), 8);
        CHECK.due("plot() of nonsense", x.plot(), Bench.NONE);
        CHECK.due("the ring is empty again", x.count(5), 0);
        CHECK.due("corner behind that", x.corner(1, 1), 1);
    }

    private static void plotNeedsThreeCornersToTheLeft() {
        PlanningBench x = new PlanningBench();
        CHECK.due("no corners", x.plot(), Bench.NONE);
        CHECK.due("one corner", Bench.plot(x, 1, 1), Bench.NONE);
        CHECK.due("two corners", Bench.plot(x, 1, 1, 5, 5), Bench.NONE);
        CHECK.due("three on a line", Bench.plot(x, 1, 1, 5, 5, 9, 9), Bench.NONE);
        CHECK.due("round to the right", Bench.plot(x, 0, 0, 0, 5, 5, 0), Bench.NONE);
        CHECK.due("a corner on a side", Bench.plot(x, 0, 0, 5, 0, 10, 0, 0, 10), Bench.NONE);
        CHECK.due("a corner twice", Bench.plot(x, 0, 0, 10, 0, 10, 0, 0, 10), Bench.NONE);
        CHECK.due("first corner told last again", Bench.plot(x, 0, 0, 10, 0, 0, 10, 0, 0), Bench.NONE);
        CHECK.due("a bend inwards", Bench.plot(x, 0, 0, 10, 0, 4, 4, 0, 10), Bench.NONE);
        CHECK.due("a star of five", Bench.plot(x, 0, 10, 20, 10, 4, 0, 10, 18, 16, 0), Bench.NONE);
        CHECK.due("a star of five to the left", Bench.plot(x, 30, 50, 18, 12, 50, 36, 10, 36, 42, 12), Bench.NONE);
        CHECK.due("round twice", Bench.plot(x, 0, 0, 9, 0, 0, 9, 0, 0, 9, 0, 0, 9), Bench.NONE);
        CHECK.due("two corners' places changed", Bench.plot(x, 0, 0, 10, 10, 10, 0, 0, 10), Bench.NONE);
        CHECK.due("none came of it", x.count(1), 0);
        CHECK.due("a triangle", Bench.plot(x, 0, 0, 1, 0, 0, 1), 0);
        CHECK.due("eight corners", Bench.plot(x, 20, 10, 30, 10, 35, 15, 35, 25, 30, 30, 20, 30, 15, 25, 15, 15), 1);
        CHECK.due("count(1)", x.count(1), 2);
        CHECK.due("the ring is empty", x.count(5), 0);
    }

    private static void plotMustNotOverlap() {
        PlanningBench x = new PlanningBench();
        CHECK.due("the first", Bench.square(x, 20, 20, 20), 0);
        CHECK.due("the same again", Bench.square(x, 20, 20, 20), Bench.NONE);
        CHECK.due("inside of it", Bench.square(x, 25, 25, 5), Bench.NONE);
        CHECK.due("around it", Bench.square(x, 10, 10, 50), Bench.NONE);
        CHECK.due("over a corner", Bench.square(x, 35, 35, 20), Bench.NONE);
        CHECK.due("through it", Bench.plot(x, 10, 29, 60, 29, 60, 31, 10, 31), Bench.NONE);
        CHECK.due("a needle into a side", Bench.plot(x, 21, 30, 10, 31, 10, 29), Bench.NONE);
        CHECK.due("a needle to a side", Bench.plot(x, 20, 30, 10, 31, 10, 29), 1);
        CHECK.due("along a side", Bench.square(x, 40, 20, 20), 2);
        CHECK.due("corner to corner", Bench.square(x, 40, 40, 5), 3);
        CHECK.due("boxes overlap, insides don't", Bench.plot(x, 39, 41, 39, 60, 20, 60), 4);
        CHECK.due("over a slanting side", Bench.plot(x, 20, 60, 20, 48, 33, 48), Bench.NONE);
        CHECK.due("along part of a slanting side", Bench.plot(x, 20, 60, 20, 48, 32, 48), 5);
    }

    private static void atMostTwelvePlots() {
        PlanningBench x = new PlanningBench();
        for (int i = 0; i < 12; i++) {
            CHECK.due("plot " + i, Bench.square(x, i * 5, 0, 5), i);
        }
        CHECK.due("the 13th", Bench.square(x, 0, 30, 5), Bench.NONE);
        CHECK.due("its ring is empty", x.count(5), 0);
        CHECK.due("count(1)", x.count(1), 12);
        CHECK.due("ring(12, 0)", x.ring(12, 0), Bench.NONE);
        CHECK.due("ring(11, 2)", x.ring(11, 2), 55);
    }

    private static void ringTellsCornersAndArea() {
        PlanningBench x = new PlanningBench();
        int[] corners = {7, 1, 20, 3, 22, 14, 9, 15, 2, 6};
        Bench.plot(x, corners);
        CHECK.due("ring(0, 0)", x.ring(0, 0), 5);
        CHECK.due("ring(0, 1)", x.ring(0, 1), 403);
        for (int i = 0; i < corners.length; i++) {
            CHECK.due("ring(0, " + (2 + i) + ")", x.ring(0, 2 + i), corners[i]);
        }
        CHECK.due("ring(0, 12)", x.ring(0, 12), Bench.NONE);
        CHECK.due("ring(0, 13)", x.ring(0, 13), Bench.NONE);
        CHECK.due("ring(0, -1)", x.ring(0, -1), Bench.NONE);
        CHECK.due("ring(0, MIN)", x.ring(0, Bench.MIN), Bench.NONE);
        CHECK.due("ring(0, MIN + 1)", x.ring(0, Bench.MIN + 1), Bench.NONE);
        CHECK.due("ring(0, MAX)", x.ring(0, Bench.MAX), Bench.NONE);
        CHECK.due("ring(-1, 0)", x.ring(-1, 0), Bench.NONE);
        CHECK.due("ring(1, 0)", x.ring(1, 0), Bench.NONE);
        CHECK.due("ring(MAX, 0)", x.ring(Bench.MAX, 0), Bench.NONE);
        x.corner(1, 1);
        CHECK.due("a ring being told is none", x.ring(1, 0), Bench.NONE);
        CHECK.due("and changes no plot", x.ring(0, 2), 7);
        x.plot();
        Bench.plot(x, 0, 40, 63, 40, 63, 63, 0, 63);
        CHECK.due("a large area", x.ring(1, 1), 2 * 63 * 23);
    }

    private static void nearIsExact() {
        PlanningBench x = new PlanningBench();
        Bench.square(x, 0, 0, 10);
        Bench.square(x, 10, 3, 4);
        Bench.square(x, 13, 14, 4);
        Bench.plot(x, 30, 0, 63, 50, 62, 50);
        near(x, 0, 1, 0, true);
        near(x, 0, 2, 4, false);
        near(x, 0, 2, 5, true);
        near(x, 1, 2, 7, true);
        near(x, 1, 2, 6, false);
        near(x, 0, 3, 19, false);
        near(x, 0, 3, 20, true);
        near(x, 0, 3, 100, true);
        PlanningBench y = new PlanningBench();
        Bench.plot(y, 0, 0, 30, 0, 0, 40);
        Bench.plot(y, 28, 36, 40, 40, 30, 44);
        Bench.plot(y, 20, 15, 25, 20, 16, 20);
        near(y, 0, 1, 19, false);
        near(y, 0, 1, 20, true);
        near(y, 0, 2, 1, true);
        near(y, 0, 2, 0, false);
        PlanningBench z = new PlanningBench();
        Bench.plot(z, 0, 0, 1, 0, 0, 1);
        Bench.plot(z, 63, 63, 62, 63, 63, 62);
        near(z, 0, 1, 87, false);
        near(z, 0, 1, 88, true);
        PlanningBench corner = new PlanningBench();
        Bench.plot(corner, 0, 0, 20, 0, 0, 20);
        Bench.plot(corner, 10, 10, 20, 10, 20, 20, 10, 20);
        near(corner, 0, 1, 0, true);
    }

    private static void near(PlanningBench x, int a, int b, int distance, boolean want) {
        CHECK.due("near(" + a + ", " + b + ", " + distance + ")", x.near(a, b, distance), want);
        CHECK.due("near(" + b + ", " + a + ", " + distance + ")", x.near(b, a, distance), want);
    }

    private static void nearRefusesWrongInputs() {
        PlanningBench x = new PlanningBench();
        Bench.square(x, 0, 0, 10);
        Bench.square(x, 10, 0, 10);
        near(x, 0, 0, 5, false);
        near(x, 1, 1, 100, false);
        near(x, 0, 2, 100, false);
        near(x, 0, -1, 100, false);
        near(x, Bench.MAX, Bench.MIN, 100, false);
        near(x, 0, 1, -1, false);
        near(x, 0, 1, 101, false);
        near(x, 0, 1, Bench.MAX, false);
        near(x, 0, 1, Bench.MIN, false);
        near(x, 0, 1, 100, true);
    }
}
