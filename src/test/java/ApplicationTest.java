/** Promises 13 to 17 and 19: apply, object, decide, build, appeal, told. */
public final class ApplicationTest {
    private static final Check CHECK = new Check("ApplicationTest");

    public static void main(String[] args) {
        applyTakesWhatIsAsTold();
        atMostFortyApplications();
        toldOfAnOpenOne();
        objectionsByOrder();
        objectionsInTime();
        objectionsAreNearAndWeighed();
        decideWaitsForThirtyDays();
        decideByTheApplicationsDay();
        decideByRulesBeforeObjections();
        weightSixRefuses();
        buildBeginsAndEnds();
        permissionsEnd();
        appealInTimeOnce();
        appealOfObjections();
        appealFindsAnotherRule();
        lastDaysAreTold();
        CHECK.finish();
    }

    private static void told(PlanningBench x, int application, int... want) {
        for (int what = 0; what < want.length; what++) {
            CHECK.due("told(" + application + ", " + what + ") on " + x.count(0), x.told(application, what), want[what]);
        }
    }

    private static int applied(PlanningBench x) {
        return x.apply(0, 1, 1, 5, 5, 3, 0);
    }

    private static void applyTakesWhatIsAsTold() {
        PlanningBench x = Bench.onePlot();
        int[][] wrong = {
            {1, 1, 1, 5, 5, 3, 0}, {-1, 1, 1, 5, 5, 3, 0}, {0, -1, 1, 5, 5, 3, 0}, {0, 5, 1, 5, 5, 3, 0},
            {0, 1, -1, 5, 5, 3, 0}, {0, 1, 5, 5, 5, 3, 0}, {0, 1, 1, 64, 5, 3, 0}, {0, 1, 1, 5, 64, 3, 0},
            {0, 1, 1, 5, 5, 0, 0}, {0, 1, 1, 5, 5, 41, 0}, {0, 1, 1, 5, 5, 3, -1}, {0, 1, 1, 5, 5, 3, 8},
            {Bench.MAX, 1, 1, 5, 5, 3, 0}, {0, Bench.MIN, 1, 5, 5, 3, 0}, {0, 1, 1, Bench.MAX, 5, 3, 0},
        };
        for (int[] w : wrong) {
            CHECK.due("apply " + java.util.Arrays.toString(w), x.apply(w[0], w[1], w[2], w[3], w[4], w[5], w[6]), Bench.NONE);
        }
        CHECK.due("none came of it", x.count(3), 0);
        CHECK.due("a design that breaks rules may be applied for", x.apply(0, 0, 0, 63, 63, 40, 7), 0);
        CHECK.due("the next", applied(x), 1);
        CHECK.due("the same again", applied(x), 2);
        CHECK.due("count(3)", x.count(3), 3);
    }

    private static void atMostFortyApplications() {
        PlanningBench x = Bench.onePlot();
        for (int i = 0; i < 40; i++) {
            CHECK.due("application " + i, applied(x), i);
        }
        CHECK.due("the 41st", applied(x), Bench.NONE);
        CHECK.due("count(3)", x.count(3), 40);
        told(x, 39, 0, 0, 0);
        told(x, 40, -1, -1, -1);
    }

    private static void toldOfAnOpenOne() {
        PlanningBench x = Bench.onePlot();
        Bench.square(x, 30, 30, 10);
        x.day(7);
        applied(x);
        x.apply(1, 31, 31, 33, 33, 3, 0);
        told(x, 0, 0, 7, 0, 0, 0, -1, -1, -1, 37, 0, -1);
        told(x, 1, 0, 7, 1, 0, 0, -1, -1, -1, 37, 0, -1);
        CHECK.due("told(0, -1)", x.told(0, -1), Bench.NONE);
        CHECK.due("told(0, MAX)", x.told(0, Bench.MAX), Bench.NONE);
        CHECK.due("told(0, MIN)", x.told(0, Bench.MIN), Bench.NONE);
        CHECK.due("told(-1, 0)", x.told(-1, 0), Bench.NONE);
        CHECK.due("told(2, 0)", x.told(2, 0), Bench.NONE);
        CHECK.due("told(MAX, 0)", x.told(Bench.MAX, 0), Bench.NONE);
    }

    /** Plot 1 touches plot 0, plot 2 is at 20, plot 3 at 21. */
    private static PlanningBench neighbours() {
        PlanningBench x = Bench.onePlot();
        Bench.square(x, 20, 0, 5);
        Bench.square(x, 0, 40, 5);
        Bench.square(x, 41, 0, 5);
        return x;
    }

    private static void objectionsByOrder() {
        PlanningBench x = neighbours();
        CHECK.due("no application", x.object(0, 1), -4);
        applied(x);
        CHECK.due("object(-1, 1)", x.object(-1, 1), -4);
        CHECK.due("object(1, 1)", x.object(1, 1), -4);
        CHECK.due("object(MAX, 1)", x.object(Bench.MAX, 1), -4);
        CHECK.due("object(0, -1)", x.object(0, -1), -4);
        CHECK.due("object(0, 4)", x.object(0, 4), -4);
        CHECK.due("object(0, MIN)", x.object(0, Bench.MIN), -4);
        CHECK.due("its own", x.object(0, 0), -4);
        CHECK.due("too far", x.object(0, 3), -2);
        CHECK.due("touching", x.object(0, 1), 2);
        CHECK.due("touching again", x.object(0, 1), -3);
        CHECK.due("weight", x.told(0, 4), 2);
        x.day(31);
        CHECK.due("late, its own", x.object(0, 0), -4);
        CHECK.due("late, too far", x.object(0, 3), -2);
        CHECK.due("late again", x.object(0, 1), -1);
        CHECK.due("late", x.object(0, 2), -1);
        CHECK.due("weight stays", x.told(0, 4), 2);
        x.decide(0);
        CHECK.due("not open", x.object(0, 2), -4);
    }

    private static void objectionsInTime() {
        PlanningBench x = neighbours();
        x.day(3);
        applied(x);
        x.day(33);
        CHECK.due("on the 30th day", x.object(0, 2), 1);
        x.day(34);
        CHECK.due("on the 31st day", x.object(0, 1), -1);
        CHECK.due("weight", x.told(0, 4), 1);
    }

    private static void objectionsAreNearAndWeighed() {
        PlanningBench x = neighbours();
        applied(x);
        x.apply(1, 21, 1, 22, 2, 1, 0);
        CHECK.due("at a distance of 20", x.object(0, 2), 1);
        CHECK.due("touching", x.object(0, 1), 2);
        CHECK.due("weights are added", x.told(0, 4), 3);
        CHECK.due("the other has none", x.told(1, 4), 0);
        CHECK.due("each has its own", x.object(1, 0), 2);
        CHECK.due("at 16", x.object(1, 3), 1);
        CHECK.due("the other's weight", x.told(1, 4), 3);
        PlanningBench y = Bench.onePlot();
        Bench.plot(y, 34, 35, 38, 35, 34, 38);
        Bench.square(y, 20, 20, 4);
        applied(y);
        CHECK.due("over a corner, above 20", y.object(0, 1), -2);
        CHECK.due("a corner touches", y.object(0, 2), 2);
        PlanningBench z = Bench.onePlot();
        Bench.plot(z, 32, 36, 38, 36, 34, 38);
        applied(z);
        CHECK.due("over a corner, exactly 20", z.object(0, 1), 1);
        PlanningBench gap = Bench.onePlot();
        Bench.square(gap, 21, 0, 5);
        Bench.plot(gap, 20, 21, 30, 22, 21, 30);
        applied(gap);
        CHECK.due("at a distance of 1", gap.object(0, 1), 1);
        CHECK.due("at 1 above a corner", gap.object(0, 2), 1);
    }

    private static void decideWaitsForThirtyDays() {
        PlanningBench x = Bench.onePlot();
        CHECK.due("no application", x.decide(0), Bench.NONE);
        x.day(2);
        applied(x);
        CHECK.due("at once", x.decide(0), Bench.NONE);
        x.day(32);
        CHECK.due("on the 30th day", x.decide(0), Bench.NONE);
        told(x, 0, 0, 2, 0, 0, 0, -1, -1, -1, 32, 0);
        x.day(33);
        told(x, 0, 0, 2, 0, 0, 0, -1, -1, -1, 32, 0);
        CHECK.due("decide(-1)", x.decide(-1), Bench.NONE);
        CHECK.due("decide(1)", x.decide(1), Bench.NONE);
        CHECK.due("decide(MIN)", x.decide(Bench.MIN), Bench.NONE);
        CHECK.due("on the 31st day", x.decide(0), 0);
        told(x, 0, 1, 2, 0, 0, 0, 33, -1, -1, 433, 0);
        CHECK.due("again", x.decide(0), Bench.NONE);
    }

    private static void decideByTheApplicationsDay() {
        PlanningBench x = new PlanningBench();
        Bench.square(x, 0, 0, 20);
        x.day(10);
        applied(x);
        applied(x);
        applied(x);
        x.day(41);
        Bench.adopt(x, "zone{plots 0;use 0;}", 11);
        CHECK.due("a plan from the next day on", x.decide(0), 2);
        told(x, 0, 2, 10, 0, 2, 0, 41, -1, -1, 101, 0);
        Bench.adopt(x, "zone{plots 0;use 0;}", 10);
        CHECK.due("a plan from its day on, known today", x.decide(1), 0);
        Bench.adopt(x, "zone{plots 0;use 1;}", 10);
        CHECK.due("a later one from that day on", x.decide(2), 3);
    }

    private static void decideByRulesBeforeObjections() {
        PlanningBench x = crowd();
        int broken = x.apply(0, 31, 31, 33, 33, 40, 0);
        objectFromAll(x, broken);
        x.day(31);
        CHECK.due("the rule comes first", x.decide(broken), 4);
        told(x, broken, 2, 0, 0, 4, 8, 31, -1, -1, 91, 0);
    }

    /** Plot 0 with a neighbour along each of its four sides, and height 10 at most. */
    private static PlanningBench crowd() {
        PlanningBench x = new PlanningBench();
        Bench.square(x, 30, 30, 5);
        Bench.square(x, 25, 30, 5);
        Bench.square(x, 35, 30, 5);
        Bench.square(x, 30, 25, 5);
        Bench.square(x, 30, 35, 5);
        Bench.square(x, 45, 45, 5);
        Bench.adopt(x, "zone{plots 0;use 0;height 10;}", 0);
        return x;
    }

    private static void objectFromAll(PlanningBench x, int application) {
        for (int plot = 1; plot <= 4; plot++) {
            CHECK.due("object(" + application + ", " + plot + ")", x.object(application, plot), 2);
        }
    }

    private static void weightSixRefuses() {
        PlanningBench x = crowd();
        int five = x.apply(0, 31, 31, 33, 33, 10, 0);
        int six = x.apply(0, 31, 31, 33, 33, 10, 0);
        x.object(five, 1);
        x.object(five, 2);
        x.object(five, 5);
        x.object(six, 1);
        x.object(six, 2);
        x.object(six, 3);
        x.day(31);
        CHECK.due("weight 5", x.told(five, 4), 5);
        CHECK.due("five doesn't refuse", x.decide(five), 0);
        CHECK.due("weight 6", x.told(six, 4), 6);
        CHECK.due("six refuses", x.decide(six), 9);
        told(x, six, 2, 0, 0, 9, 6, 31, -1, -1, 91, 0);
    }

    private static void buildBeginsAndEnds() {
        PlanningBench x = Bench.onePlot();
        CHECK.due("no application", x.build(0), Bench.NONE);
        applied(x);
        x.apply(0, 1, 1, 25, 25, 1, 0);
        CHECK.due("open", x.build(0), Bench.NONE);
        x.day(31);
        x.decide(0);
        x.decide(1);
        CHECK.due("refused", x.build(1), Bench.NONE);
        x.day(40);
        CHECK.due("begun", x.build(0), 3);
        told(x, 0, 3, 0, 0, 0, 0, 31, 40, -1, 340, 0);
        x.day(50);
        CHECK.due("done", x.build(0), 4);
        told(x, 0, 4, 0, 0, 0, 0, 31, 40, 50, -1, 0);
        CHECK.due("done already", x.build(0), Bench.NONE);
        CHECK.due("build(-1)", x.build(-1), Bench.NONE);
        CHECK.due("build(2)", x.build(2), Bench.NONE);
        CHECK.due("build(MAX)", x.build(Bench.MAX), Bench.NONE);
        x.day(9999);
        told(x, 0, 4, 0, 0, 0, 0, 31, 40, 50, -1, 0);
    }

    private static void permissionsEnd() {
        PlanningBench x = Bench.onePlot();
        applied(x);
        applied(x);
        x.day(31);
        x.decide(0);
        x.decide(1);
        x.day(431);
        told(x, 0, 1, 0, 0, 0, 0, 31, -1, -1, 431, 0);
        CHECK.due("begun on the 400th day", x.build(0), 3);
        x.day(432);
        told(x, 1, 5, 0, 0, 0, 0, 31, -1, -1, -1, 0);
        CHECK.due("begun on the 401st day", x.build(1), Bench.NONE);
        CHECK.due("an ended one is no refused one", x.appeal(1), Bench.NONE);
        CHECK.due("nor an open one", x.decide(1), Bench.NONE);
        x.day(731);
        told(x, 0, 3, 0, 0, 0, 0, 31, 431, -1, 731, 0);
        PlanningBench y = Bench.onePlot();
        applied(y);
        applied(y);
        y.day(31);
        y.decide(0);
        y.decide(1);
        y.build(0);
        y.build(1);
        y.day(331);
        CHECK.due("done on the 300th day", y.build(0), 4);
        y.day(332);
        told(y, 1, 5, 0, 0, 0, 0, 31, 31, -1, -1, 0);
        CHECK.due("done on the 301st day", y.build(1), Bench.NONE);
        CHECK.due("it doesn't stand", y.stands(1, 332, 332), false);
    }

    private static void appealInTimeOnce() {
        PlanningBench x = new PlanningBench();
        Bench.square(x, 0, 0, 20);
        CHECK.due("no application", x.appeal(0), Bench.NONE);
        applied(x);
        applied(x);
        applied(x);
        CHECK.due("open", x.appeal(0), Bench.NONE);
        x.day(31);
        x.decide(0);
        x.decide(1);
        x.decide(2);
        CHECK.due("lost", x.appeal(0), 2);
        told(x, 0, 2, 0, 0, 2, 0, 31, -1, -1, -1, 1);
        CHECK.due("appeal(-1)", x.appeal(-1), Bench.NONE);
        CHECK.due("appeal(3)", x.appeal(3), Bench.NONE);
        CHECK.due("appeal(MIN)", x.appeal(Bench.MIN), Bench.NONE);
        x.day(91);
        Bench.adopt(x, "zone{plots 0;use 0;}", 0);
        CHECK.due("once only", x.appeal(0), Bench.NONE);
        told(x, 1, 2, 0, 0, 2, 0, 31, -1, -1, 91, 0);
        CHECK.due("won on the 60th day", x.appeal(1), 0);
        told(x, 1, 1, 0, 0, 2, 0, 91, -1, -1, 491, 1);
        CHECK.due("a won one isn't refused", x.appeal(1), Bench.NONE);
        x.day(92);
        CHECK.due("late on the 61st day", x.appeal(2), Bench.NONE);
        told(x, 2, 2, 0, 0, 2, 0, 31, -1, -1, 91, 0);
        x.day(491);
        CHECK.due("a won one is begun by its own day", x.build(1), 3);
        told(x, 1, 3, 0, 0, 2, 0, 91, 491, -1, 791, 1);
    }

    private static void appealOfObjections() {
        PlanningBench x = crowd();
        int asked = x.apply(0, 31, 31, 33, 33, 10, 0);
        objectFromAll(x, asked);
        x.day(31);
        CHECK.due("refused by objections", x.decide(asked), 9);
        x.day(32);
        CHECK.due("objections are no rule", x.appeal(asked), 0);
        told(x, asked, 1, 0, 0, 9, 8, 32, -1, -1, 432, 1);
    }

    private static void appealFindsAnotherRule() {
        PlanningBench x = new PlanningBench();
        Bench.square(x, 0, 0, 20);
        x.day(5);
        applied(x);
        x.day(36);
        CHECK.due("refused by 2", x.decide(0), 2);
        Bench.adopt(x, "zone{plots 0;use 0;}", 6);
        x.day(37);
        Bench.adopt(x, "zone{plots 0;use 0;height 1;}", 5);
        CHECK.due("lost by another rule", x.appeal(0), 4);
        told(x, 0, 2, 5, 0, 2, 0, 36, -1, -1, -1, 1);
    }

    private static void lastDaysAreTold() {
        PlanningBench x = Bench.onePlot();
        x.day(9990);
        applied(x);
        CHECK.due("the last day may lie behind all days", x.told(0, 8), 10020);
        CHECK.due("too early", x.decide(0), Bench.NONE);
        x.day(9999);
        CHECK.due("it stays open", x.told(0, 0), 0);
    }
}
