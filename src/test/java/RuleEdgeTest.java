/** Terms 1 on designs, terms 2, promise 12: each sentence that names an edge. */
public final class RuleEdgeTest {
    private static final Check CHECK = new Check("RuleEdgeTest");
    private static final int NONE = Bench.NONE;

    public static void main(String[] args) {
        designsEnd();
        ruleOneOnTheRing();
        ruleOneEachCorner();
        ruleTwo();
        ruleThree();
        ruleFour();
        ruleFive();
        ruleFiveAllThatStands();
        ruleFiveOfHalves();
        ruleFiveOfTheMost();
        ruleSix();
        ruleSixSlanting();
        ruleSeven();
        ruleEight();
        ruleEightCut();
        ruleEightNone();
        ruleEightOnAnotherPlot();
        byADayAsKnownOnADay();
        firstRule();
        judgeNotAsTold();
        CHECK.finish();
    }

    /** The design is a plot, x0, y0, x1, y1, a height and a use. */
    private static void judged(PlanningBench x, int[] design, int day, int known, int want) {
        int got = x.judge(design[0], design[1], design[2], design[3], design[4], design[5], design[6], day, known);
        CHECK.due("judge(" + java.util.Arrays.toString(design) + ", " + day + ", " + known + ")", got, want);
    }

    private static void box(PlanningBench x, int x0, int y0, int x1, int y1, int want) {
        int today = x.count(0);
        judged(x, new int[] {0, x0, y0, x1, y1, 1, 0}, today, today, want);
    }

    private static PlanningBench planned(String text, int... corners) {
        PlanningBench x = new PlanningBench();
        Bench.plot(x, corners);
        Bench.adopt(x, text, 0);
        return x;
    }

    private static PlanningBench square(String text) {
        return planned(text, 0, 0, 20, 0, 20, 20, 0, 20);
    }

    /** Plot 0 below plot 1, each of 20; what the text tells is of plot 0. */
    private static PlanningBench twoSquares(String text) {
        PlanningBench x = square(text + "zone{plots 1;use 0;}");
        Bench.square(x, 0, 20, 20);
        return x;
    }

    private static void designsEnd() {
        CHECK.sentence("Terms 1",
            "A DESIGN is a rectangle x0 to x1, y0 to y1 (0 to 63, x0 below x1, y0 below y1), a HEIGHT (1 to 40), a USE (0 to 7).");
        PlanningBench x = planned("zone{plots 0;use 0 1 2 3 4 5 6 7;}", 0, 0, 63, 0, 63, 63, 0, 63);
        judged(x, new int[] {0, 0, 0, 63, 63, 40, 7}, 0, 0, 0);
        judged(x, new int[] {0, 0, 0, 1, 1, 1, 0}, 0, 0, 0);
        judged(x, new int[] {0, 62, 62, 63, 63, 1, 0}, 0, 0, 0);
        int[][] wrong = {
            {1, -1}, {1, 30}, {1, 31}, {2, -1}, {2, 40}, {2, 41}, {3, 64}, {3, 20}, {3, 19}, {4, 64}, {4, 20}, {4, 19},
            {5, 0}, {5, -1}, {5, 41}, {6, -1}, {6, 8},
        };
        for (int[] change : wrong) {
            int[] design = {0, 20, 20, 30, 40, 10, 1};
            design[change[0]] = change[1];
            judged(x, design, 0, 0, NONE);
        }
        judged(x, new int[] {0, 29, 39, 30, 40, 10, 1}, 0, 0, 0);
    }

    private static void ruleOneOnTheRing() {
        CHECK.sentence("Terms 2", "1: a corner of its rectangle lies outside the ring (on it is inside).");
        PlanningBench x = square("zone{plots 0;use 0;}");
        box(x, 0, 0, 20, 20, 0);
        box(x, 0, 0, 21, 20, 1);
        box(x, 0, 0, 20, 21, 1);
        box(x, 20, 20, 21, 21, 1);
        box(x, 19, 19, 20, 20, 0);
        PlanningBench inner = planned("zone{plots 0;use 0;}", 20, 20, 40, 20, 40, 40, 20, 40);
        box(inner, 20, 20, 40, 40, 0);
        box(inner, 19, 20, 40, 40, 1);
        box(inner, 20, 19, 40, 40, 1);
        box(inner, 10, 10, 50, 50, 1);
        box(inner, 10, 25, 50, 35, 1);
    }

    private static void ruleOneEachCorner() {
        CHECK.sentence("Terms 2", "1: a corner of its rectangle lies outside the ring (on it is inside).");
        PlanningBench x = planned("zone{plots 0;use 0;}", 2, 0, 18, 0, 20, 2, 20, 18, 18, 20, 2, 20, 0, 18, 0, 2);
        box(x, 1, 1, 19, 19, 0);
        box(x, 0, 1, 10, 10, 1);
        box(x, 0, 2, 10, 10, 0);
        box(x, 10, 1, 20, 10, 1);
        box(x, 10, 2, 20, 10, 0);
        box(x, 10, 10, 20, 19, 1);
        box(x, 10, 10, 20, 18, 0);
        box(x, 0, 10, 10, 19, 1);
        box(x, 0, 10, 10, 18, 0);
        PlanningBench sliver = planned("zone{plots 0;use 0;}", 0, 0, 63, 62, 0, 62);
        box(sliver, 0, 61, 61, 62, 0);
        box(sliver, 0, 61, 62, 62, 1);
        box(sliver, 1, 1, 2, 2, 1);
        box(sliver, 1, 2, 2, 3, 0);
        box(sliver, 60, 61, 61, 62, 0);
        box(sliver, 61, 61, 62, 62, 1);
        box(sliver, 62, 61, 63, 62, 1);
    }

    private static void ruleTwo() {
        CHECK.sentence("Terms 2", "2: no PLAN is in force, or no ZONE of it names the PLOT.");
        PlanningBench x = new PlanningBench();
        Bench.square(x, 0, 0, 20);
        box(x, 1, 1, 2, 2, 2);
        Bench.adopt(x, "zone{plots 0;use 0;}", 1);
        judged(x, new int[] {0, 1, 1, 2, 2, 1, 0}, 0, 0, 2);
        judged(x, new int[] {0, 1, 1, 2, 2, 1, 0}, 1, 0, 0);
        x.adopt(0, 2);
        judged(x, new int[] {0, 1, 1, 2, 2, 1, 0}, 2, 0, 2);
        Bench.adopt(x, "zone{plots 1;use 0;}zone{use 0;}", 3);
        judged(x, new int[] {0, 1, 1, 2, 2, 1, 0}, 3, 0, 2);
        Bench.adopt(x, "zone{plots 1;use 0;}zone{plots 0;use 0;}", 4);
        judged(x, new int[] {0, 1, 1, 2, 2, 1, 0}, 4, 0, 0);
        x.day(10);
        x.adopt(0, 4);
        judged(x, new int[] {0, 1, 1, 2, 2, 1, 0}, 4, 9, 0);
        judged(x, new int[] {0, 1, 1, 2, 2, 1, 0}, 4, 10, 2);
    }

    private static void ruleThree() {
        CHECK.sentence("Terms 2", "3: the USE isn't one of the ZONE's (none told: none is).");
        PlanningBench x = square("zone{plots 0;use 0 7 8 9 16 18 35;}zone{plots 0;use 1;}");
        PlanningBench none = square("zone{plots 0;}");
        for (int use = 0; use <= 7; use++) {
            judged(x, new int[] {0, 1, 1, 2, 2, 1, use}, 0, 0, use == 0 || use == 7 ? 0 : 3);
            judged(none, new int[] {0, 1, 1, 2, 2, 1, use}, 0, 0, 3);
        }
    }

    private static void ruleFour() {
        CHECK.sentence("Terms 2", "4: HEIGHT above \"height\" (told).");
        int[][] rows = {{0, 1, 4}, {1, 1, 0}, {1, 2, 4}, {39, 39, 0}, {39, 40, 4}, {40, 40, 0}, {999, 40, 0}};
        for (int[] row : rows) {
            judged(square("zone{plots 0;use 0;height " + row[0] + ";}"), new int[] {0, 1, 1, 2, 2, row[1], 0}, 0, 0, row[2]);
        }
        judged(square("zone{plots 0;use 0;}"), new int[] {0, 1, 1, 2, 2, 40, 0}, 0, 0, 0);
    }

    private static void ruleFive() {
        CHECK.sentence("Terms 2", "above \"cover\" (told) times the ring's area.");
        PlanningBench quarter = square("zone{plots 0;use 0;cover 25;}");
        box(quarter, 0, 0, 10, 10, 0);
        box(quarter, 0, 0, 11, 10, 5);
        box(quarter, 0, 0, 10, 11, 5);
        box(square("zone{plots 0;use 0;cover 100;}"), 0, 0, 20, 20, 0);
        box(square("zone{plots 0;use 0;cover 99;}"), 0, 0, 20, 20, 5);
        box(square("zone{plots 0;use 0;cover 0;}"), 0, 0, 1, 1, 5);
        box(square("zone{plots 0;use 0;cover 999;}"), 0, 0, 20, 20, 0);
        box(square("zone{plots 0;use 0;}"), 0, 0, 20, 20, 0);
        PlanningBench half = square("zone{plots 0;use 0;cover 52;}");
        box(half, 0, 0, 16, 13, 0);
        box(half, 0, 0, 11, 19, 5);
        PlanningBench one = planned("zone{plots 0;use 0;cover 1;}", 0, 0, 10, 0, 10, 10, 0, 10);
        box(one, 0, 0, 1, 1, 0);
        box(one, 0, 0, 2, 1, 5);
    }

    private static void ruleFiveAllThatStands() {
        CHECK.sentence("Terms 2", "5: a hundred times the rectangles' area of all that stands on the PLOT, and of it");
        PlanningBench x = square("zone{plots 0 1;use 0;cover 25;}");
        Bench.square(x, 20, 0, 20);
        Bench.done(x, 0, 0, 0, 5, 5);
        Bench.done(x, 0, 5, 0, 10, 5);
        Bench.done(x, 1, 20, 0, 30, 10);
        CHECK.due("count(6)", x.count(6), 3);
        box(x, 10, 10, 20, 15, 0);
        box(x, 10, 10, 15, 20, 0);
        box(x, 9, 10, 20, 15, 5);
        judged(x, new int[] {1, 39, 19, 40, 20, 1, 0}, 93, 93, 5);
        judged(x, new int[] {1, 39, 19, 40, 20, 1, 0}, 92, 93, 0);
        judged(x, new int[] {0, 10, 10, 20, 20, 1, 0}, 30, 93, 0);
        judged(x, new int[] {0, 10, 10, 20, 20, 1, 0}, 31, 93, 5);
        judged(x, new int[] {0, 10, 10, 20, 17, 1, 0}, 61, 93, 0);
        judged(x, new int[] {0, 10, 10, 20, 17, 1, 0}, 62, 93, 5);
    }

    private static void ruleFiveOfHalves() {
        CHECK.sentence("Terms 2", "above \"cover\" (told) times the ring's area.");
        int[] triangle = {0, 0, 5, 0, 0, 5};
        box(planned("zone{plots 0;use 0;cover 48;}", triangle), 0, 0, 3, 2, 0);
        box(planned("zone{plots 0;use 0;cover 47;}", triangle), 0, 0, 3, 2, 5);
        box(planned("zone{plots 0;use 0;cover 8;}", triangle), 0, 0, 1, 1, 0);
        box(planned("zone{plots 0;use 0;cover 7;}", triangle), 0, 0, 1, 1, 5);
    }

    /** Forty that stand in one place, as each was applied for before another stood. */
    private static void ruleFiveOfTheMost() {
        CHECK.sentence("Terms 2", "5: a hundred times the rectangles' area of all that stands on the PLOT, and of it");
        PlanningBench x = planned("zone{plots 0;use 0;}", 0, 0, 63, 0, 63, 63, 0, 63);
        for (int i = 0; i < 40; i++) {
            x.apply(0, 0, 0, 63, 63, 1, 0);
        }
        x.day(31);
        for (int i = 0; i < 40; i++) {
            x.decide(i);
            x.build(i);
            x.build(i);
        }
        CHECK.due("count(6)", x.count(6), 40);
        Bench.adopt(x, "zone{plots 0;use 0;cover 999;}", 31);
        box(x, 0, 0, 63, 63, 5);
        judged(x, new int[] {0, 0, 0, 63, 63, 1, 0}, 31, 30, 0);
    }

    private static void ruleSix() {
        CHECK.sentence("Terms 2", "6: a side of the ring (its points) is nearer than \"edge\" (told) to the rectangle.");
        PlanningBench x = square("zone{plots 0;use 0;edge 3;}");
        box(x, 3, 3, 17, 17, 0);
        box(x, 2, 3, 17, 17, 6);
        box(x, 3, 2, 17, 17, 6);
        box(x, 3, 3, 18, 17, 6);
        box(x, 3, 3, 17, 18, 6);
        box(square("zone{plots 0;use 0;edge 0;}"), 0, 0, 20, 20, 0);
        box(square("zone{plots 0;use 0;}"), 0, 0, 20, 20, 0);
        box(square("zone{plots 0;use 0;edge 1;}"), 0, 1, 19, 19, 6);
        box(square("zone{plots 0;use 0;edge 1;}"), 1, 1, 19, 19, 0);
        box(square("zone{plots 0;use 0;edge 10;}"), 9, 9, 10, 10, 6);
        box(square("zone{plots 0;use 0;edge 999;}"), 9, 9, 10, 10, 6);
        box(planned("zone{plots 0;use 0;edge 31;}", 0, 0, 63, 0, 63, 63, 0, 63), 31, 31, 32, 32, 0);
        box(planned("zone{plots 0;use 0;edge 32;}", 0, 0, 63, 0, 63, 63, 0, 63), 31, 31, 32, 32, 6);
    }

    /**
     * The side 3 x + 4 y = 180 is at 5 from (25, 20); the side 63 y = 62 x, whose length is above 88
     * and below 89, is at 88 over that from (25, 26) and at 89 over that from (26, 27).
     */
    private static void ruleSixSlanting() {
        CHECK.sentence("Terms 2", "6: a side of the ring (its points) is nearer than \"edge\" (told) to the rectangle.");
        PlanningBench x = planned("zone{plots 0;use 0;edge 5;}", 0, 0, 60, 0, 0, 45);
        box(x, 5, 5, 25, 20, 0);
        box(x, 5, 5, 26, 20, 6);
        box(x, 5, 5, 25, 21, 6);
        PlanningBench sliver = planned("zone{plots 0;use 0;edge 1;}", 0, 0, 63, 62, 0, 62);
        box(sliver, 20, 26, 25, 30, 6);
        box(sliver, 20, 27, 26, 30, 0);
        PlanningBench cut = planned("zone{plots 0;use 0;edge 1;}", 2, 0, 18, 0, 20, 2, 20, 18, 18, 20, 2, 20, 0, 18, 0, 2);
        box(cut, 1, 2, 19, 18, 6);
        box(cut, 2, 2, 18, 18, 0);
        box(cut, 1, 3, 19, 17, 0);
        PlanningBench besideItsEnd = planned("zone{plots 0;use 0;edge 5;}", 2, 16, 10, 10, 13, 8, 60, 8, 60, 60, 2, 60);
        box(besideItsEnd, 13, 14, 20, 20, 6);
        box(besideItsEnd, 14, 14, 20, 20, 0);
    }

    private static void ruleSeven() {
        CHECK.sentence("Terms 2", "7: its inside and that of something that stands have a point in common.");
        PlanningBench x = square("zone{plots 0;use 0;}");
        Bench.done(x, 0, 5, 6, 10, 12);
        int[][] meeting = {
            {5, 6, 10, 12}, {6, 7, 7, 8}, {0, 0, 20, 20}, {0, 8, 20, 9}, {7, 0, 8, 20},
            {9, 11, 12, 14}, {9, 0, 12, 7}, {0, 11, 6, 14}, {0, 0, 6, 7}, {9, 6, 10, 12},
        };
        for (int[] b : meeting) {
            box(x, b[0], b[1], b[2], b[3], 7);
        }
        int[][] touching = {
            {10, 6, 12, 12}, {0, 6, 5, 12}, {5, 12, 10, 14}, {5, 0, 10, 6}, {10, 12, 12, 14}, {0, 0, 5, 6}, {10, 0, 12, 6}, {0, 12, 5, 14},
        };
        for (int[] b : touching) {
            box(x, b[0], b[1], b[2], b[3], 0);
        }
        int[][] apart = {{11, 6, 12, 12}, {0, 6, 4, 12}, {5, 13, 10, 14}, {5, 0, 10, 5}, {11, 13, 12, 14}};
        for (int[] b : apart) {
            box(x, b[0], b[1], b[2], b[3], 0);
        }
    }

    private static void shade(PlanningBench x, int x0, int x1, int y1, int height, int want) {
        int today = x.count(0);
        judged(x, new int[] {0, x0, 1, x1, y1, height, 0}, today, today, want);
    }

    private static void ruleEight() {
        CHECK.sentence("Terms 2", "has a point of its inside in common with that of something that stands on another PLOT.");
        PlanningBench x = twoSquares("zone{plots 0;use 0;shade 10;}");
        Bench.done(x, 1, 5, 25, 10, 30);
        shade(x, 5, 10, 15, 10, 0);
        shade(x, 5, 10, 15, 11, 8);
        shade(x, 5, 10, 16, 10, 8);
        shade(x, 0, 5, 15, 40, 0);
        shade(x, 0, 6, 15, 40, 8);
        shade(x, 10, 15, 15, 40, 0);
        shade(x, 9, 15, 15, 40, 8);
        shade(x, 0, 20, 15, 11, 8);
        shade(x, 7, 8, 15, 11, 8);
        shade(x, 0, 4, 15, 40, 0);
        shade(x, 11, 15, 15, 40, 0);
        shade(x, 5, 10, 10, 11, 0);
        shade(x, 7, 8, 20, 5, 0);
        shade(x, 7, 8, 20, 6, 8);
    }

    private static void ruleEightCut() {
        CHECK.sentence("Terms 2", "8: its SHADE, the rectangle x0 to x1, y1 to y1 + HEIGHT * \"shade\" / 10 (cut; none: 0)");
        PlanningBench x = twoSquares("zone{plots 0;use 0;shade 33;}");
        Bench.done(x, 1, 5, 25, 10, 30);
        shade(x, 5, 10, 16, 3, 0);
        shade(x, 5, 10, 17, 3, 8);
        shade(x, 5, 10, 12, 4, 0);
        shade(x, 5, 10, 13, 4, 8);
        PlanningBench nine = twoSquares("zone{plots 0;use 0;shade 9;}");
        Bench.done(nine, 1, 0, 20, 20, 40);
        shade(nine, 5, 10, 20, 1, 0);
        shade(nine, 5, 10, 20, 2, 8);
        PlanningBench most = twoSquares("zone{plots 0;use 0;shade 999;}");
        Bench.done(most, 1, 19, 39, 20, 40);
        shade(most, 19, 20, 2, 40, 8);
        shade(most, 18, 19, 2, 40, 0);
    }

    private static void ruleEightNone() {
        CHECK.sentence("Terms 2", "8: its SHADE, the rectangle x0 to x1, y1 to y1 + HEIGHT * \"shade\" / 10 (cut; none: 0)");
        PlanningBench untold = twoSquares("zone{plots 0;use 0;}");
        Bench.done(untold, 1, 0, 20, 20, 40);
        shade(untold, 0, 20, 20, 40, 0);
        PlanningBench zero = twoSquares("zone{plots 0;use 0;shade 0;}");
        Bench.done(zero, 1, 0, 20, 20, 40);
        shade(zero, 0, 20, 20, 40, 0);
        PlanningBench slanting = planned("zone{plots 0;use 0;shade 9;}zone{plots 1;use 0;}", 0, 0, 40, 0, 0, 40);
        Bench.plot(slanting, 40, 0, 40, 40, 0, 40);
        Bench.done(slanting, 1, 20, 20, 40, 40);
        shade(slanting, 1, 15, 25, 40, 0);
        shade(slanting, 1, 20, 20, 40, 0);
        shade(slanting, 1, 19, 21, 40, 0);
    }

    /** With a slanting side between the plots, something may stand beside a design and above it. */
    private static void ruleEightOnAnotherPlot() {
        CHECK.sentence("Terms 2", "has a point of its inside in common with that of something that stands on another PLOT.");
        PlanningBench own = square("zone{plots 0;use 0;shade 10;}");
        Bench.done(own, 0, 5, 10, 10, 15);
        shade(own, 5, 10, 5, 40, 0);
        PlanningBench below = planned("zone{plots 0;use 0;shade 10;}zone{plots 1;use 0;}", 0, 20, 20, 20, 20, 40, 0, 40);
        Bench.square(below, 0, 0, 20);
        Bench.done(below, 1, 0, 0, 20, 20);
        judged(below, new int[] {0, 0, 20, 20, 40, 40, 0}, 31, 31, 0);
        PlanningBench beside = planned("zone{plots 0;use 0;shade 9;}zone{plots 1;use 0;}", 0, 0, 40, 0, 0, 40);
        Bench.plot(beside, 40, 0, 40, 40, 0, 40);
        Bench.done(beside, 1, 15, 30, 40, 40);
        judged(beside, new int[] {0, 5, 5, 16, 24, 7, 0}, 31, 31, 0);
        judged(beside, new int[] {0, 5, 5, 16, 24, 8, 0}, 31, 31, 8);
        PlanningBench around = planned("zone{plots 0;use 0;shade 10;}zone{plots 1;use 0;}", 0, 0, 60, 0, 0, 60);
        Bench.plot(around, 60, 0, 60, 60, 0, 60);
        Bench.done(around, 1, 30, 30, 31, 59);
        judged(around, new int[] {0, 20, 5, 30, 10, 40, 0}, 31, 31, 0);
        judged(around, new int[] {0, 20, 5, 31, 10, 20, 0}, 31, 31, 0);
        judged(around, new int[] {0, 20, 5, 31, 10, 21, 0}, 31, 31, 8);
    }

    private static void byADayAsKnownOnADay() {
        CHECK.sentence("Terms 2", "RULES that a DESIGN on a PLOT may break, by a day as known on a day");
        PlanningBench x = twoSquares("zone{plots 0;use 0;cover 50;shade 10;}");
        int own = x.apply(0, 0, 0, 5, 20, 1, 0);
        int other = x.apply(1, 10, 20, 20, 30, 1, 0);
        x.day(40);
        x.decide(own);
        x.decide(other);
        x.build(own);
        x.build(other);
        x.day(50);
        x.build(own);
        x.build(other);
        x.day(80);
        x.raze(own, 60);
        x.raze(other, 60);
        int[][] designs = {{0, 6, 0, 12, 20, 1, 0, 5}, {0, 4, 0, 6, 5, 1, 0, 7}, {0, 10, 10, 15, 20, 1, 0, 8}};
        for (int[] design : designs) {
            int rule = design[7];
            judged(x, design, 49, 9999, 0);
            judged(x, design, 50, 49, 0);
            judged(x, design, 50, 50, rule);
            judged(x, design, 59, 9999, rule);
            judged(x, design, 60, 79, rule);
            judged(x, design, 60, 80, 0);
            judged(x, design, 9999, 79, rule);
            judged(x, design, 9999, 9999, 0);
        }
    }

    private static void firstRule() {
        CHECK.sentence("Promise 12", "The first RULE that a DESIGN would break on a PLOT, on a day as known on a day; 0: none.");
        PlanningBench x = new PlanningBench();
        Bench.square(x, 0, 0, 20);
        Bench.square(x, 0, 20, 20);
        int[] design = {0, 0, 0, 21, 20, 11, 1};
        judged(x, design, 0, 0, 1);
        design[3] = 20;
        judged(x, design, 0, 0, 2);
        Bench.adopt(x, "zone{plots 0 1;use 0;}", 0);
        judged(x, design, 0, 0, 3);
        Bench.done(x, 1, 0, 20, 20, 25);
        Bench.done(x, 0, 5, 5, 10, 10);
        Bench.adopt(x, "zone{plots 0;use 0;height 10;cover 50;edge 1;shade 10;}", 62);
        judged(x, design, 62, 62, 3);
        design[6] = 0;
        judged(x, design, 62, 62, 4);
        design[5] = 10;
        judged(x, design, 62, 62, 5);
        judged(x, new int[] {0, 10, 5, 15, 20, 10, 0}, 62, 62, 6);
        judged(x, new int[] {0, 9, 5, 15, 19, 10, 0}, 62, 62, 7);
        judged(x, new int[] {0, 10, 5, 15, 19, 10, 0}, 62, 62, 8);
        judged(x, new int[] {0, 10, 5, 15, 19, 1, 0}, 62, 62, 0);
    }

    private static void judgeNotAsTold() {
        CHECK.sentence("Promise 12", "NONE: not as told.");
        PlanningBench x = square("zone{plots 0 1;use 0 1;}");
        int[] right = {0, 2, 3, 8, 9, 10, 1, 0, 0};
        CHECK.due("as told", x.judge(0, 2, 3, 8, 9, 10, 1, 0, 0), 0);
        CHECK.due("as told on the last day", x.judge(0, 2, 3, 8, 9, 10, 1, 9999, 9999), 0);
        String before = Readout.of(x);
        int[][] edges = {
            {-1, 1, 12}, {-1, 8, 64}, {-1, 9, 64}, {2, 64, 1}, {3, 64, 2}, {0, 41, -1}, {-1, 8, 9}, {-1, 10000, 10001}, {-1, 10000, 10001},
        };
        for (int place = 0; place < 9; place++) {
            int[] wrong = {edges[place][0], edges[place][1], edges[place][2], Bench.MIN, Bench.MAX};
            for (int w : wrong) {
                int[] r = right.clone();
                r[place] = w;
                CHECK.due("judge" + java.util.Arrays.toString(r), x.judge(r[0], r[1], r[2], r[3], r[4], r[5], r[6], r[7], r[8]), NONE);
            }
        }
        CHECK.due("what is told then", Readout.of(x), before);
    }
}
