/** Promise 12: judge, rule by rule, each with the edge that just doesn't break it. */
public final class JudgeTest {
    private static final Check CHECK = new Check("JudgeTest");

    public static void main(String[] args) {
        wrongInputs();
        edgesOfInputs();
        ruleOneCorners();
        ruleTwoPlans();
        ruleThreeUses();
        ruleFourHeight();
        ruleFiveCover();
        ruleFiveHalfAreas();
        ruleSixEdge();
        ruleSevenStanding();
        ruleEightShade();
        rulesComeInOrder();
        CHECK.finish();
    }

    private static void judged(PlanningBench x, int[] design, int day, int known, int want) {
        int got = x.judge(design[0], design[1], design[2], design[3], design[4], design[5], design[6], day, known);
        CHECK.due("judge(" + java.util.Arrays.toString(design) + ", " + day + ", " + known + ")", got, want);
    }

    private static int[] box(int plot, int x0, int y0, int x1, int y1) {
        return new int[] {plot, x0, y0, x1, y1, 1, 0};
    }

    private static PlanningBench planned(String text) {
        PlanningBench x = new PlanningBench();
        Bench.square(x, 0, 0, 20);
        Bench.adopt(x, text, 0);
        return x;
    }

    private static void wrongInputs() {
        PlanningBench x = Bench.onePlot();
        int[] right = {0, 2, 3, 8, 9, 10, 1};
        judged(x, right, 0, 0, 0);
        int[][] wrong = {
            {0, -1}, {0, 1}, {0, Bench.MAX}, {0, Bench.MIN},
            {1, -1}, {1, 8}, {1, 9}, {1, Bench.MIN}, {1, Bench.MAX},
            {2, -1}, {2, 9}, {2, 10}, {2, Bench.MIN}, {2, Bench.MAX},
            {3, 64}, {3, 2}, {3, 1}, {3, Bench.MIN}, {3, Bench.MAX},
            {4, 64}, {4, 3}, {4, 2}, {4, Bench.MIN}, {4, Bench.MAX},
            {5, 0}, {5, 41}, {5, -1}, {5, Bench.MIN}, {5, Bench.MAX},
            {6, -1}, {6, 8}, {6, Bench.MIN}, {6, Bench.MAX},
        };
        for (int[] change : wrong) {
            int[] design = right.clone();
            design[change[0]] = change[1];
            judged(x, design, 0, 0, Bench.NONE);
        }
        judged(x, right, -1, 0, Bench.NONE);
        judged(x, right, 0, -1, Bench.NONE);
        judged(x, right, 10000, 0, Bench.NONE);
        judged(x, right, 0, 10000, Bench.NONE);
        judged(x, right, Bench.MIN, Bench.MAX, Bench.NONE);
        CHECK.due("judge makes no application", x.count(3), 0);
    }

    private static void edgesOfInputs() {
        PlanningBench x = new PlanningBench();
        Bench.square(x, 0, 0, 63);
        Bench.adopt(x, "zone{plots 0;use 0 7;}", 0);
        judged(x, new int[] {0, 0, 0, 63, 63, 40, 7}, 9999, 9999, 0);
        judged(x, new int[] {0, 0, 0, 1, 1, 1, 0}, 0, 0, 0);
        judged(x, new int[] {0, 62, 62, 63, 63, 1, 0}, 0, 0, 0);
    }

    private static void ruleOneCorners() {
        PlanningBench x = new PlanningBench();
        Bench.plot(x, 10, 0, 30, 10, 20, 30, 0, 20);
        Bench.adopt(x, "zone{plots 0;use 0;}", 0);
        judged(x, box(0, 10, 5, 20, 25), 0, 0, 0);
        judged(x, box(0, 10, 0, 11, 1), 0, 0, 1);
        judged(x, box(0, 10, 4, 18, 5), 0, 0, 0);
        judged(x, box(0, 10, 4, 19, 5), 0, 0, 1);
        judged(x, box(0, 24, 8, 26, 18), 0, 0, 0);
        judged(x, box(0, 24, 8, 26, 19), 0, 0, 1);
        judged(x, box(0, 24, 7, 26, 18), 0, 0, 1);
        judged(x, box(0, 4, 12, 6, 23), 0, 0, 1);
        judged(x, box(0, 4, 12, 6, 22), 0, 0, 0);
        judged(x, box(0, 3, 12, 6, 22), 0, 0, 1);
        judged(x, box(0, 40, 40, 50, 50), 0, 0, 1);
        PlanningBench around = new PlanningBench();
        Bench.square(around, 20, 20, 4);
        judged(around, box(0, 10, 10, 40, 40), 0, 0, 1);
    }

    private static void ruleTwoPlans() {
        PlanningBench x = new PlanningBench();
        Bench.square(x, 0, 0, 20);
        Bench.square(x, 20, 0, 20);
        int[] first = box(0, 1, 1, 5, 5);
        int[] second = box(1, 21, 1, 25, 5);
        judged(x, first, 0, 0, 2);
        x.day(10);
        Bench.adopt(x, "zone{plots 0;use 0;}", 20);
        Bench.adopt(x, "zone{plots 1;use 0;}", 30);
        judged(x, first, 19, 10, 2);
        judged(x, first, 20, 9, 2);
        judged(x, first, 20, 10, 0);
        judged(x, second, 20, 10, 2);
        judged(x, second, 30, 10, 0);
        judged(x, first, 30, 10, 2);
        x.day(40);
        Bench.adopt(x, "zone{plots 0 1;use 0;}", 30);
        judged(x, first, 30, 39, 2);
        judged(x, first, 30, 40, 0);
    }

    private static void ruleThreeUses() {
        PlanningBench x = planned("zone{plots 0;use 0 5 8 16 32;}");
        for (int use = 0; use <= 7; use++) {
            judged(x, new int[] {0, 1, 1, 5, 5, 1, use}, 0, 0, use == 0 || use == 5 ? 0 : 3);
        }
        PlanningBench y = planned("zone{plots 0;}");
        judged(y, box(0, 1, 1, 5, 5), 0, 0, 3);
    }

    private static void ruleFourHeight() {
        PlanningBench x = planned("zone{plots 0;use 0;height 12;}");
        judged(x, new int[] {0, 1, 1, 5, 5, 12, 0}, 0, 0, 0);
        judged(x, new int[] {0, 1, 1, 5, 5, 13, 0}, 0, 0, 4);
        PlanningBench y = planned("zone{plots 0;use 0;height 0;}");
        judged(y, box(0, 1, 1, 5, 5), 0, 0, 4);
    }

    private static void ruleFiveCover() {
        PlanningBench x = planned("zone{plots 0 1;use 0;cover 25;}");
        Bench.square(x, 20, 0, 20);
        judged(x, box(0, 0, 0, 10, 10), 0, 0, 0);
        judged(x, box(0, 0, 0, 11, 10), 0, 0, 5);
        int done = Bench.done(x, 0, 0, 0, 6, 10);
        CHECK.due("it stands", x.stands(done, 31, 31), true);
        judged(x, box(0, 10, 10, 18, 15), 31, 31, 0);
        judged(x, box(0, 10, 10, 17, 16), 31, 31, 5);
        judged(x, box(0, 10, 10, 17, 16), 30, 31, 0);
        judged(x, box(0, 10, 10, 17, 16), 31, 30, 0);
        judged(x, box(1, 20, 0, 30, 10), 31, 31, 0);
        x.day(40);
        x.raze(done, 35);
        judged(x, box(0, 10, 10, 17, 16), 34, 40, 5);
        judged(x, box(0, 10, 10, 17, 16), 35, 40, 0);
        judged(x, box(0, 10, 10, 17, 16), 35, 39, 5);
        PlanningBench half = planned("zone{plots 0;use 0;cover 52;}");
        judged(half, box(0, 0, 0, 16, 13), 0, 0, 0);
        judged(half, box(0, 0, 0, 11, 19), 0, 0, 5);
        PlanningBench zero = planned("zone{plots 0;use 0;cover 0;}");
        judged(zero, box(0, 1, 1, 2, 2), 0, 0, 5);
        PlanningBench all = planned("zone{plots 0;use 0;cover 100;}");
        judged(all, box(0, 0, 0, 20, 20), 0, 0, 0);
        PlanningBench most = planned("zone{plots 0;use 0;cover 99;}");
        judged(most, box(0, 0, 0, 20, 20), 0, 0, 5);
    }

    private static void ruleFiveHalfAreas() {
        PlanningBench x = new PlanningBench();
        Bench.plot(x, 0, 0, 5, 0, 0, 5);
        Bench.adopt(x, "zone{plots 0;use 0;cover 48;}", 0);
        judged(x, box(0, 0, 0, 3, 2), 0, 0, 0);
        PlanningBench y = new PlanningBench();
        Bench.plot(y, 0, 0, 5, 0, 0, 5);
        Bench.adopt(y, "zone{plots 0;use 0;cover 47;}", 0);
        judged(y, box(0, 0, 0, 3, 2), 0, 0, 5);
    }

    private static void ruleSixEdge() {
        PlanningBench x = planned("zone{plots 0;use 0;edge 3;}");
        judged(x, box(0, 3, 3, 17, 17), 0, 0, 0);
        judged(x, box(0, 2, 3, 17, 17), 0, 0, 6);
        judged(x, box(0, 3, 2, 17, 17), 0, 0, 6);
        judged(x, box(0, 3, 3, 18, 17), 0, 0, 6);
        judged(x, box(0, 3, 3, 17, 18), 0, 0, 6);
        PlanningBench none = planned("zone{plots 0;use 0;edge 0;}");
        judged(none, box(0, 0, 0, 20, 20), 0, 0, 0);
        PlanningBench far = planned("zone{plots 0;use 0;edge 999;}");
        judged(far, box(0, 9, 9, 10, 10), 0, 0, 6);
        PlanningBench slant = new PlanningBench();
        Bench.plot(slant, 0, 0, 60, 0, 0, 45);
        Bench.adopt(slant, "zone{plots 0;use 0;edge 5;}", 0);
        judged(slant, box(0, 5, 5, 11, 30), 0, 0, 0);
        judged(slant, box(0, 5, 5, 12, 30), 0, 0, 6);
        judged(slant, box(0, 5, 5, 25, 20), 0, 0, 0);
        judged(slant, box(0, 5, 5, 26, 20), 0, 0, 6);
        judged(slant, box(0, 5, 5, 25, 21), 0, 0, 6);
        PlanningBench justBesideItsEnd = new PlanningBench();
        Bench.plot(justBesideItsEnd, 2, 16, 10, 10, 13, 8, 60, 8, 60, 60, 2, 60);
        Bench.adopt(justBesideItsEnd, "zone{plots 0;use 0;edge 5;}", 0);
        judged(justBesideItsEnd, box(0, 13, 14, 20, 20), 0, 0, 6);
        judged(justBesideItsEnd, box(0, 14, 14, 20, 20), 0, 0, 0);
        PlanningBench wide = new PlanningBench();
        Bench.square(wide, 0, 0, 63);
        Bench.adopt(wide, "zone{plots 0;use 0;edge 31;}", 0);
        judged(wide, box(0, 31, 31, 32, 32), 0, 0, 0);
    }

    private static void ruleSevenStanding() {
        PlanningBench x = Bench.onePlot();
        int done = Bench.done(x, 0, 5, 5, 10, 10);
        int[][] meeting = {{5, 5, 10, 10}, {6, 6, 7, 7}, {0, 0, 20, 20}, {0, 7, 20, 8}, {9, 9, 12, 12}, {0, 0, 6, 6}, {4, 9, 6, 11}};
        for (int[] b : meeting) {
            judged(x, box(0, b[0], b[1], b[2], b[3]), 31, 31, 7);
            judged(x, box(0, b[0], b[1], b[2], b[3]), 30, 31, 0);
            judged(x, box(0, b[0], b[1], b[2], b[3]), 31, 30, 0);
            judged(x, box(0, b[0], b[1], b[2], b[3]), 9999, 9999, 7);
        }
        int[][] touching = {{10, 5, 12, 10}, {0, 5, 5, 10}, {5, 10, 10, 12}, {5, 0, 10, 5}, {10, 10, 12, 12}, {0, 0, 5, 5}};
        for (int[] b : touching) {
            judged(x, box(0, b[0], b[1], b[2], b[3]), 31, 31, 0);
        }
        x.day(50);
        x.raze(done, 40);
        judged(x, box(0, 6, 6, 7, 7), 39, 50, 7);
        judged(x, box(0, 6, 6, 7, 7), 40, 50, 0);
        judged(x, box(0, 6, 6, 7, 7), 40, 49, 7);
    }

    private static void ruleEightShade() {
        PlanningBench x = new PlanningBench();
        Bench.square(x, 0, 0, 20);
        Bench.square(x, 0, 20, 20);
        Bench.adopt(x, "zone{plots 0;use 0;shade 25;}zone{plots 1;use 0;}", 0);
        Bench.done(x, 1, 5, 25, 10, 30);
        int[][] rows = {
            {5, 10, 10, 15, 4, 0}, {5, 10, 10, 15, 5, 8}, {5, 10, 10, 16, 3, 0}, {5, 10, 10, 16, 4, 8},
            {0, 10, 5, 15, 40, 0}, {10, 10, 15, 15, 40, 0}, {9, 10, 15, 15, 40, 8}, {0, 10, 6, 15, 40, 8},
            {0, 10, 20, 15, 40, 8}, {6, 10, 7, 20, 2, 0}, {6, 10, 7, 20, 3, 8},
        };
        for (int[] r : rows) {
            judged(x, new int[] {0, r[0], r[1], r[2], r[3], r[4], 0}, 31, 31, r[5]);
            judged(x, new int[] {0, r[0], r[1], r[2], r[3], r[4], 0}, 30, 31, 0);
            judged(x, new int[] {0, r[0], r[1], r[2], r[3], r[4], 0}, 31, 30, 0);
        }
        shadeOnTheSamePlotIsFine();
        shadeOfNoLength();
    }

    private static void shadeOnTheSamePlotIsFine() {
        PlanningBench x = planned("zone{plots 0;use 0;shade 10;}");
        Bench.done(x, 0, 5, 10, 10, 15);
        judged(x, new int[] {0, 5, 1, 10, 5, 20, 0}, 31, 31, 0);
    }

    /** Only a plan that was changed since can leave a house there, with a slanting side between. */
    private static void shadeOfNoLength() {
        PlanningBench x = new PlanningBench();
        Bench.plot(x, 0, 0, 40, 0, 0, 40);
        Bench.plot(x, 40, 0, 40, 40, 0, 40);
        Bench.adopt(x, "zone{plots 0;use 0;shade 9;}zone{plots 1;use 0;}", 0);
        Bench.done(x, 1, 15, 30, 40, 40);
        judged(x, new int[] {0, 5, 5, 16, 24, 6, 0}, 31, 31, 0);
        judged(x, new int[] {0, 5, 5, 16, 24, 7, 0}, 31, 31, 0);
        judged(x, new int[] {0, 5, 5, 16, 24, 8, 0}, 31, 31, 8);
        judged(x, new int[] {0, 5, 5, 15, 24, 40, 0}, 31, 31, 0);
        PlanningBench y = new PlanningBench();
        Bench.square(y, 0, 0, 20);
        Bench.square(y, 0, 20, 20);
        Bench.adopt(y, "zone{plots 0;use 0;shade 9;}zone{plots 1;use 0;}", 0);
        Bench.done(y, 1, 0, 20, 20, 40);
        judged(y, new int[] {0, 5, 5, 10, 20, 1, 0}, 31, 31, 0);
        judged(y, new int[] {0, 5, 5, 10, 20, 2, 0}, 31, 31, 8);
    }

    private static void rulesComeInOrder() {
        PlanningBench x = new PlanningBench();
        Bench.square(x, 0, 0, 20);
        Bench.square(x, 0, 20, 20);
        int[] bad = {0, 0, 0, 18, 18, 30, 5};
        judged(x, new int[] {0, 0, 0, 21, 21, 30, 5}, 0, 0, 1);
        judged(x, bad, 0, 0, 2);
        Bench.adopt(x, "zone{plots 0 1;use 0;}", 0);
        Bench.done(x, 1, 5, 21, 10, 25);
        Bench.done(x, 0, 5, 5, 10, 10);
        x.day(100);
        Bench.adopt(x, "zone{plots 0;use 0;height 10;cover 50;edge 1;shade 10;}", 100);
        judged(x, bad, 100, 100, 3);
        bad[6] = 0;
        judged(x, bad, 100, 100, 4);
        bad[5] = 10;
        judged(x, bad, 100, 100, 5);
        judged(x, new int[] {0, 0, 0, 10, 17, 10, 0}, 100, 100, 6);
        judged(x, new int[] {0, 1, 1, 10, 17, 10, 0}, 100, 100, 7);
        judged(x, new int[] {0, 1, 11, 10, 17, 10, 0}, 100, 100, 8);
        judged(x, new int[] {0, 1, 11, 10, 17, 4, 0}, 100, 100, 0);
    }
}
