/** Terms 3, promises 13 to 19: each sentence that names an edge. */
public final class ApplicationEdgeTest {
    private static final Check CHECK = new Check("ApplicationEdgeTest");
    private static final int NONE = Bench.NONE;
    private static final int OPEN = 0;
    private static final int PERMITTED = 1;
    private static final int REFUSED = 2;
    private static final int BEGUN = 3;
    private static final int DONE = 4;
    private static final int ENDED = 5;
    private static final int FRESH = 6;
    /** Numbers of no application of the scene. */
    private static final int[] NO_APPLICATION = {-1, 7, 39, 40, Bench.MIN, Bench.MAX};

    public static void main(String[] args) {
        applicationsAtMostForty();
        eachWay();
        nearAtMostTwenty();
        objectionsWithinThirtyDays();
        objectionsWeigh();
        decidedFromTheThirtyFirstDay();
        decidedAtTheEndOfDays();
        brokenByTheApplicationsDay();
        brokenByWhatStoodThen();
        nineIfSixAtLeast();
        begunWithinFourHundredDays();
        doneWithinThreeHundredDays();
        appealedWithinSixtyDays();
        appealedOnce();
        wonIfNoRule();
        permittedOnTheDayItWasWon();
        applyNumbers();
        applyRefused();
        objectWeights();
        objectLateOrNotNear();
        objectOrder();
        objectNotOpen();
        objectAgainInTime();
        objectOnlyOneWithAWeight();
        decideAnswers();
        decideRefused();
        buildAnswers();
        buildRefused();
        appealAnswers();
        appealRefused();
        clashInsides();
        clashNone();
        toldWayDayAndPlot();
        toldWeight();
        toldBegunAndDone();
        toldDecidedOrWon();
        toldLastDays();
        toldRefusedBy();
        toldAppealed();
        toldNoneSuch();
        CHECK.finish();
    }

    private static void told(PlanningBench x, int application, int... want) {
        for (int what = 0; what < want.length; what++) {
            CHECK.due("told(" + application + ", " + what + ") on " + x.count(0), x.told(application, what), want[what]);
        }
    }

    private static int applied(PlanningBench x) {
        return x.apply(0, 1, 1, 5, 5, 3, 0);
    }

    private static int decided(PlanningBench x) {
        int application = applied(x);
        x.day(x.count(0) + 31);
        x.decide(application);
        return application;
    }

    /**
     * Day 450, and one of each way: the number tells which. Number 2 is late for an appeal and
     * number 0 for objections; FRESH was applied for today. Plot 1 touches plot 0, plot 2 is far.
     */
    private static PlanningBench scene() {
        PlanningBench x = Bench.onePlot();
        Bench.square(x, 20, 0, 5);
        Bench.square(x, 58, 58, 5);
        for (int way = OPEN; way <= ENDED; way++) {
            x.apply(0, 1, 1, way == REFUSED ? 25 : 5, 5, 3, 0);
        }
        x.day(31);
        x.decide(ENDED);
        x.day(100);
        x.decide(PERMITTED);
        x.decide(REFUSED);
        x.decide(BEGUN);
        x.decide(DONE);
        x.day(200);
        x.build(BEGUN);
        x.build(DONE);
        x.build(DONE);
        x.day(450);
        applied(x);
        for (int way = OPEN; way <= ENDED; way++) {
            CHECK.due("the scene's " + way, x.told(way, 0), way);
        }
        return x;
    }

    private static void applicationsAtMostForty() {
        CHECK.sentence("Terms 3", "APPLICATIONS, at most 40: a DESIGN on a PLOT, from TODAY on.");
        PlanningBench x = Bench.onePlot();
        x.day(5);
        for (int i = 0; i < 40; i++) {
            CHECK.due("application " + i, applied(x), i);
        }
        CHECK.due("application 40", applied(x), NONE);
        CHECK.due("count(3)", x.count(3), 40);
        CHECK.due("told(39, 1)", x.told(39, 1), 5);
        CHECK.due("told(40, 1)", x.told(40, 1), NONE);
    }

    private static void eachWay() {
        CHECK.sentence("Terms 3", "Of each: 0 open, 1 permitted, 2 refused, 3 begun, 4 done, 5 ended.");
        PlanningBench x = Bench.onePlot();
        int kept = decided(x);
        CHECK.due("permitted", x.told(kept, 0), PERMITTED);
        x.build(kept);
        CHECK.due("begun", x.told(kept, 0), BEGUN);
        x.build(kept);
        CHECK.due("done", x.told(kept, 0), DONE);
        int lost = applied(x);
        CHECK.due("open", x.told(lost, 0), OPEN);
        x.day(62);
        CHECK.due("open till it is decided", x.told(lost, 0), OPEN);
        x.decide(lost);
        CHECK.due("refused", x.told(lost, 0), REFUSED);
        int late = x.apply(0, 10, 10, 12, 12, 1, 0);
        x.day(93);
        x.decide(late);
        x.day(494);
        CHECK.due("ended", x.told(late, 0), ENDED);
        CHECK.due("done for ever", x.told(kept, 0), DONE);
        CHECK.due("refused for ever", x.told(lost, 0), REFUSED);
    }

    private static void nearAtMostTwenty() {
        CHECK.sentence("Terms 3", "NEAR: two PLOTS, the distance of whose rings is 20 at most.");
        PlanningBench x = Bench.onePlot();
        Bench.plot(x, 40, 5, 45, 5, 40, 10);
        Bench.plot(x, 32, 36, 38, 36, 34, 38);
        Bench.plot(x, 40, 21, 45, 21, 45, 25);
        Bench.plot(x, 0, 41, 5, 41, 0, 45);
        Bench.plot(x, 20, 20, 30, 20, 30, 30);
        applied(x);
        CHECK.due("beside a side at 20", x.object(0, 1), 1);
        CHECK.due("over a corner at 20", x.object(0, 2), 1);
        CHECK.due("over a corner, 401 in squares", x.object(0, 3), -2);
        CHECK.due("beside a side at 21", x.object(0, 4), -2);
        CHECK.due("at 0", x.object(0, 5), 2);
    }

    private static void objectionsWithinThirtyDays() {
        CHECK.sentence("Terms 3", "OBJECTIONS count within 30 days (the 30th, too) from the application's day on");
        PlanningBench x = Bench.onePlot();
        for (int i = 0; i < 4; i++) {
            Bench.square(x, 20, 5 * i, 5);
        }
        x.day(10);
        applied(x);
        CHECK.due("on its day", x.object(0, 1), 2);
        x.day(39);
        CHECK.due("on the 29th", x.object(0, 2), 2);
        x.day(40);
        CHECK.due("on the 30th", x.object(0, 3), 2);
        x.day(41);
        CHECK.due("on the 31st", x.object(0, 4), -1);
        CHECK.due("their weight", x.told(0, 4), 6);
        CHECK.due("decide(0)", x.decide(0), 9);
    }

    private static void objectionsWeigh() {
        CHECK.sentence("Terms 3", "one of a PLOT whose ring touches the other one's (a distance of 0) weighs 2, else 1.");
        PlanningBench x = Bench.onePlot();
        Bench.square(x, 20, 5, 5);
        Bench.square(x, 20, 20, 5);
        Bench.plot(x, 10, 20, 12, 30, 8, 30);
        Bench.square(x, 21, 0, 4);
        applied(x);
        CHECK.due("along a side", x.object(0, 1), 2);
        CHECK.due("at a corner", x.object(0, 2), 2);
        CHECK.due("a corner at a side", x.object(0, 3), 2);
        CHECK.due("at a distance of 1", x.object(0, 4), 1);
        CHECK.due("their weight", x.told(0, 4), 7);
        PlanningBench least = new PlanningBench();
        Bench.plot(least, 0, 0, 63, 62, 0, 62);
        Bench.plot(least, 62, 61, 10, 0, 63, 0);
        least.apply(0, 1, 10, 2, 11, 1, 0);
        CHECK.due("at less than a tenth", least.object(0, 1), 1);
    }

    private static void decidedFromTheThirtyFirstDay() {
        CHECK.sentence("Terms 3", "DECIDED from the 31st day on");
        PlanningBench x = Bench.onePlot();
        x.day(10);
        applied(x);
        applied(x);
        CHECK.due("on its day", x.decide(0), NONE);
        x.day(40);
        CHECK.due("on the 30th day", x.decide(0), NONE);
        CHECK.due("it stays open", x.told(0, 0), OPEN);
        x.day(41);
        CHECK.due("on the 31st day", x.decide(0), 0);
        CHECK.due("told(0, 5)", x.told(0, 5), 41);
        x.day(9999);
        CHECK.due("on the last day", x.decide(1), 0);
        CHECK.due("told(1, 5)", x.told(1, 5), 9999);
    }

    private static void decidedAtTheEndOfDays() {
        CHECK.sentence("Terms 3", "DECIDED from the 31st day on");
        PlanningBench x = Bench.onePlot();
        x.day(9968);
        int first = applied(x);
        x.day(9969);
        int second = applied(x);
        x.day(9999);
        CHECK.due("the 31st day is the last", x.decide(first), 0);
        CHECK.due("the 30th day is the last", x.decide(second), NONE);
        CHECK.due("begun on the last day", x.build(first), BEGUN);
        CHECK.due("done on the last day", x.build(first), DONE);
        CHECK.due("stands", x.stands(first, 9999, 9999), true);
        CHECK.due("stands the day ahead", x.stands(first, 9998, 9999), false);
    }

    private static void brokenByTheApplicationsDay() {
        CHECK.sentence("Terms 3", "the first RULE that it breaks by the application's day as known TODAY: refused by that");
        PlanningBench x = new PlanningBench();
        Bench.square(x, 0, 0, 20);
        x.day(10);
        for (int i = 0; i < 4; i++) {
            applied(x);
        }
        x.day(41);
        CHECK.due("no plan", x.decide(0), 2);
        Bench.adopt(x, "zone{plots 0;use 0;}", 11);
        CHECK.due("a plan from the next day on", x.decide(1), 2);
        Bench.adopt(x, "zone{plots 0;use 0;}", 10);
        CHECK.due("a plan from its day on, known today", x.decide(2), 0);
        Bench.adopt(x, "zone{plots 0;use 1;height 1;}", 10);
        CHECK.due("the first of the rules 3 and 4", x.decide(3), 3);
        told(x, 3, REFUSED, 10, 0, 3, 0, 41);
    }

    private static void brokenByWhatStoodThen() {
        CHECK.sentence("Terms 3", "the first RULE that it breaks by the application's day as known TODAY: refused by that");
        PlanningBench x = Bench.onePlot();
        int standing = applied(x);
        x.day(40);
        x.decide(standing);
        int ahead = applied(x);
        x.day(50);
        x.build(standing);
        x.build(standing);
        int sameDay = applied(x);
        x.day(60);
        int razed = applied(x);
        x.day(91);
        CHECK.due("applied for before it stood", x.decide(ahead), 0);
        CHECK.due("applied for on the day it stood from", x.decide(sameDay), 7);
        x.raze(standing, 60);
        CHECK.due("razed since the application's day, as known today", x.decide(razed), 0);
    }

    /** Plots 1 to 4 are along the four sides of plot 0, plot 5 is near it; height 10 at most. */
    private static PlanningBench crowd() {
        PlanningBench x = new PlanningBench();
        Bench.square(x, 30, 30, 5);
        Bench.square(x, 25, 30, 5);
        Bench.square(x, 35, 30, 5);
        Bench.square(x, 30, 25, 5);
        Bench.square(x, 30, 35, 5);
        Bench.square(x, 45, 45, 5);
        Bench.adopt(x, "zone{plots 0;use 0;height 10;}", 0);
        return x;
    }

    private static int opposed(PlanningBench x, int height, int... plots) {
        int application = x.apply(0, 31, 31, 33, 33, height, 0);
        for (int plot : plots) {
            x.object(application, plot);
        }
        return application;
    }

    private static void nineIfSixAtLeast() {
        CHECK.sentence("Terms 3", "else 9, if objections weigh 6 at least; else it's permitted.");
        PlanningBench x = crowd();
        int five = opposed(x, 10, 1, 2, 5);
        int six = opposed(x, 10, 1, 2, 3);
        int seven = opposed(x, 10, 1, 2, 3, 5);
        int broken = opposed(x, 11, 1, 2, 3, 4, 5);
        x.day(31);
        CHECK.due("5", x.told(five, 4), 5);
        CHECK.due("5 permits", x.decide(five), 0);
        CHECK.due("6", x.told(six, 4), 6);
        CHECK.due("6 refuses", x.decide(six), 9);
        CHECK.due("7", x.told(seven, 4), 7);
        CHECK.due("7 refuses", x.decide(seven), 9);
        CHECK.due("9", x.told(broken, 4), 9);
        CHECK.due("a rule comes first", x.decide(broken), 4);
    }

    private static void begunWithinFourHundredDays() {
        CHECK.sentence("Terms 3", "A permission that isn't begun within 400 days (the 400th, too) from that day on");
        PlanningBench x = Bench.onePlot();
        x.day(10);
        int kept = applied(x);
        int left = applied(x);
        x.day(50);
        x.decide(kept);
        x.decide(left);
        x.day(450);
        CHECK.due("permitted on the 400th day", x.told(left, 0), PERMITTED);
        CHECK.due("begun on the 400th day", x.build(kept), BEGUN);
        x.day(451);
        CHECK.due("ended on the 401st day", x.told(left, 0), ENDED);
        CHECK.due("not begun on the 401st day", x.build(left), NONE);
        CHECK.due("the begun one goes on", x.told(kept, 0), BEGUN);
        x.day(9999);
        CHECK.due("ended for ever", x.told(left, 0), ENDED);
    }

    private static void doneWithinThreeHundredDays() {
        CHECK.sentence("Terms 3", "or begun and not done within 300 days from the beginning, is ended (it's so from the next day on).");
        PlanningBench x = Bench.onePlot();
        int kept = applied(x);
        int left = applied(x);
        x.day(50);
        x.decide(kept);
        x.decide(left);
        x.day(60);
        x.build(kept);
        x.build(left);
        x.day(360);
        CHECK.due("begun on the 300th day", x.told(left, 0), BEGUN);
        CHECK.due("done on the 300th day", x.build(kept), DONE);
        x.day(361);
        CHECK.due("ended on the 301st day", x.told(left, 0), ENDED);
        CHECK.due("not done on the 301st day", x.build(left), NONE);
        CHECK.due("it doesn't stand", x.stands(left, 361, 361), false);
        CHECK.due("the done one isn't ended", x.told(kept, 0), DONE);
        told(x, left, ENDED, 0, 0, 0, 0, 50, 60, NONE, NONE, 0);
    }

    /** Day 41, and four of day 10 that were refused today by rule 2, as there is no plan. */
    private static PlanningBench refused() {
        PlanningBench x = new PlanningBench();
        Bench.square(x, 0, 0, 20);
        x.day(10);
        for (int i = 0; i < 4; i++) {
            applied(x);
        }
        x.day(41);
        for (int i = 0; i < 4; i++) {
            x.decide(i);
        }
        return x;
    }

    private static void appealedWithinSixtyDays() {
        CHECK.sentence("Terms 3", "APPEALED within 60 days (the 60th, too) of a refusal, once");
        PlanningBench x = refused();
        CHECK.due("on the day of the refusal", x.appeal(0), 2);
        x.day(101);
        CHECK.due("on the 60th day", x.appeal(1), 2);
        x.day(102);
        CHECK.due("on the 61st day", x.appeal(2), NONE);
        CHECK.due("told(1, 9)", x.told(1, 9), 1);
        CHECK.due("told(2, 9)", x.told(2, 9), 0);
        x.day(9999);
        CHECK.due("on the last day", x.appeal(3), NONE);
    }

    private static void appealedOnce() {
        CHECK.sentence("Terms 3", "APPEALED within 60 days (the 60th, too) of a refusal, once");
        PlanningBench x = refused();
        CHECK.due("lost", x.appeal(0), 2);
        Bench.adopt(x, "zone{plots 0;use 0;}", 0);
        CHECK.due("a second one, that would be won", x.appeal(0), NONE);
        CHECK.due("it stays refused", x.told(0, 0), REFUSED);
        CHECK.due("another's first one", x.appeal(1), 0);
    }

    private static void wonIfNoRule() {
        CHECK.sentence("Terms 3", "won, if it breaks no RULE by the application's day as known TODAY");
        PlanningBench x = refused();
        Bench.adopt(x, "zone{plots 0;use 0;}", 11);
        CHECK.due("a plan from the next day on", x.appeal(0), 2);
        Bench.adopt(x, "zone{plots 0;use 0;height 2;}", 10);
        CHECK.due("it breaks another rule now", x.appeal(1), 4);
        x.day(42);
        Bench.adopt(x, "zone{plots 0;use 0;height 3;}", 10);
        CHECK.due("a plan from its day on, known today", x.appeal(2), 0);
        PlanningBench y = crowd();
        int six = opposed(y, 10, 1, 2, 3);
        y.day(31);
        y.decide(six);
        CHECK.due("objections are no rule", y.appeal(six), 0);
    }

    private static void permittedOnTheDayItWasWon() {
        CHECK.sentence("Terms 3", "it's permitted TODAY.");
        PlanningBench x = refused();
        x.day(101);
        Bench.adopt(x, "zone{plots 0;use 0;}", 0);
        x.appeal(0);
        x.appeal(1);
        told(x, 0, PERMITTED, 10, 0, 2, 0, 101, NONE, NONE, 501, 1);
        x.day(501);
        CHECK.due("begun on the 400th day from then on", x.build(0), BEGUN);
        x.day(502);
        CHECK.due("ended on the 401st day from then on", x.told(1, 0), ENDED);
        told(x, 1, ENDED, 10, 0, 2, 0, 101, NONE, NONE, NONE, 1);
        CHECK.due("no appeal of an ended one", x.appeal(1), NONE);
    }

    private static void applyNumbers() {
        CHECK.sentence("Promise 13", "An APPLICATION: its number.");
        PlanningBench x = new PlanningBench();
        Bench.square(x, 0, 0, 5);
        CHECK.due("without a plan, outside its plot", x.apply(0, 0, 0, 63, 63, 40, 7), 0);
        CHECK.due("refused", x.apply(0, 5, 0, 5, 63, 40, 7), NONE);
        CHECK.due("a refused one takes no number", x.apply(0, 62, 62, 63, 63, 1, 0), 1);
        CHECK.due("the same again", x.apply(0, 62, 62, 63, 63, 1, 0), 2);
    }

    private static void applyRefused() {
        CHECK.sentence("Promise 13", "NONE, doing nothing: not as told, there are 40.");
        PlanningBench x = Bench.onePlot();
        int[] right = {0, 2, 3, 8, 9, 10, 1};
        String before = Readout.of(x);
        int[][] edges = {{-1, 1, 12}, {-1, 8, 64}, {-1, 9, 64}, {2, 64, 1}, {3, 64, 2}, {0, 41, -1}, {-1, 8, 9}};
        for (int place = 0; place < 7; place++) {
            int[] wrong = {edges[place][0], edges[place][1], edges[place][2], Bench.MIN, Bench.MAX};
            for (int w : wrong) {
                int[] r = right.clone();
                r[place] = w;
                CHECK.due("apply" + java.util.Arrays.toString(r), x.apply(r[0], r[1], r[2], r[3], r[4], r[5], r[6]), NONE);
            }
        }
        CHECK.due("what is told then", Readout.of(x), before);
        for (int i = 0; i < 40; i++) {
            x.apply(0, 2, 3, 8, 9, 10, 1);
        }
        CHECK.due("the 41st", x.apply(0, 2, 3, 8, 9, 10, 1), NONE);
        CHECK.due("the 41st, not as told", x.apply(0, 2, 3, 8, 9, 10, 8), NONE);
        CHECK.due("count(3)", x.count(3), 40);
    }

    private static void objectWeights() {
        CHECK.sentence("Promise 14", "An objection to an open APPLICATION from another PLOT: its weight.");
        PlanningBench x = crowd();
        int a = opposed(x, 10);
        for (int plot = 1; plot <= 5; plot++) {
            CHECK.due("object(a, " + plot + ")", x.object(a, plot), plot == 5 ? 1 : 2);
            CHECK.due("the weight then", x.told(a, 4), plot == 5 ? 9 : 2 * plot);
        }
        Bench.square(x, 35, 35, 5);
        CHECK.due("from a plot that was told later", x.object(a, 6), 2);
        CHECK.due("the weight then", x.told(a, 4), 11);
    }

    private static void objectLateOrNotNear() {
        CHECK.sentence("Promise 14", "-1: it's late; -2: the PLOT isn't NEAR");
        PlanningBench x = scene();
        x.day(480);
        CHECK.due("not near, on the 30th day", x.object(FRESH, 2), -2);
        CHECK.due("in time", x.object(FRESH, 1), 2);
        String before = Readout.of(x);
        CHECK.due("late by far", x.object(OPEN, 1), -1);
        CHECK.due("not near", x.object(OPEN, 2), -2);
        CHECK.due("what is told then", Readout.of(x), before);
        x.day(481);
        CHECK.due("late by a day", x.object(FRESH, 1), -1);
    }

    private static void objectOrder() {
        CHECK.sentence("Promise 14", "(The first of -4, -2, -1, -3; only one with a weight counts.)");
        PlanningBench x = Bench.onePlot();
        Bench.square(x, 20, 0, 5);
        Bench.square(x, 58, 58, 5);
        applied(x);
        CHECK.due("not near", x.object(0, 2), -2);
        CHECK.due("in time", x.object(0, 1), 2);
        CHECK.due("again", x.object(0, 1), -3);
        x.day(31);
        CHECK.due("its own and late", x.object(0, 0), -4);
        CHECK.due("no such plot and late", x.object(0, 3), -4);
        CHECK.due("not near and late", x.object(0, 2), -2);
        CHECK.due("late and again", x.object(0, 1), -1);
        x.decide(0);
        CHECK.due("not open, not near and late", x.object(0, 2), -4);
        CHECK.due("not open, late and again", x.object(0, 1), -4);
    }

    private static void objectNotOpen() {
        CHECK.sentence("Promise 14", "-4: no such APPLICATION that is open, no such PLOT, or its own.");
        PlanningBench x = scene();
        String before = Readout.of(x);
        for (int way = PERMITTED; way <= ENDED; way++) {
            CHECK.due("object(" + way + ", 1)", x.object(way, 1), -4);
        }
        for (int none : NO_APPLICATION) {
            CHECK.due("object(" + none + ", 1)", x.object(none, 1), -4);
        }
        int[] wrong = {-1, 3, 11, 12, Bench.MIN, Bench.MAX};
        for (int w : wrong) {
            CHECK.due("object(FRESH, " + w + ")", x.object(FRESH, w), -4);
        }
        CHECK.due("its own", x.object(FRESH, 0), -4);
        CHECK.due("what is told then", Readout.of(x), before);
        CHECK.due("an open one", x.object(FRESH, 1), 2);
    }

    private static void objectAgainInTime() {
        CHECK.sentence("Promise 14", "-3: it has objected (in time)");
        PlanningBench x = Bench.onePlot();
        Bench.square(x, 20, 0, 5);
        Bench.square(x, 0, 20, 5);
        int first = applied(x);
        int second = applied(x);
        CHECK.due("once", x.object(first, 1), 2);
        CHECK.due("twice", x.object(first, 1), -3);
        CHECK.due("another's", x.object(first, 2), 2);
        CHECK.due("to another", x.object(second, 1), 2);
        x.day(30);
        CHECK.due("thrice, on the last day", x.object(first, 1), -3);
        CHECK.due("the weight stays", x.told(first, 4), 4);
    }

    private static void objectOnlyOneWithAWeight() {
        CHECK.sentence("Promise 14", "only one with a weight counts.");
        PlanningBench x = Bench.onePlot();
        Bench.square(x, 20, 0, 5);
        Bench.square(x, 58, 58, 5);
        int a = applied(x);
        x.object(a, 2);
        x.object(a, 0);
        x.object(a, 3);
        CHECK.due("of -2 and -4", x.told(a, 4), 0);
        x.object(a, 1);
        x.object(a, 1);
        CHECK.due("of -3", x.told(a, 4), 2);
        int b = applied(x);
        x.day(31);
        CHECK.due("late", x.object(b, 1), -1);
        CHECK.due("late again", x.object(b, 1), -1);
        CHECK.due("of -1", x.told(b, 4), 0);
    }

    private static void decideAnswers() {
        CHECK.sentence("Promise 15", "An open APPLICATION is DECIDED: 0 permitted, else by what it's refused (1 to 9).");
        PlanningBench x = crowd();
        int fine = opposed(x, 10);
        int outside = x.apply(0, 29, 31, 33, 33, 10, 0);
        int hated = opposed(x, 10, 1, 2, 3);
        x.day(31);
        CHECK.due("permitted", x.decide(fine), 0);
        told(x, fine, PERMITTED, 0, 0, 0, 0, 31);
        CHECK.due("refused by the first", x.decide(outside), 1);
        told(x, outside, REFUSED, 0, 0, 1, 0, 31);
        CHECK.due("refused by the last", x.decide(hated), 9);
        told(x, hated, REFUSED, 0, 0, 9, 6, 31);
    }

    private static void decideRefused() {
        CHECK.sentence("Promise 15", "NONE, doing nothing: none such, or it's too early.");
        PlanningBench x = scene();
        x.day(480);
        String before = Readout.of(x);
        for (int way = PERMITTED; way <= ENDED; way++) {
            CHECK.due("decide(" + way + ")", x.decide(way), NONE);
        }
        for (int none : NO_APPLICATION) {
            CHECK.due("decide(" + none + ")", x.decide(none), NONE);
        }
        CHECK.due("too early", x.decide(FRESH), NONE);
        CHECK.due("what is told then", Readout.of(x), before);
        x.day(481);
        CHECK.due("not too early", x.decide(FRESH), 7);
        CHECK.due("an open one of long ago", x.decide(OPEN), 0);
    }

    private static void buildAnswers() {
        CHECK.sentence("Promise 16", "A permitted one is begun, or a begun one done, TODAY: how it is then (3, 4).");
        PlanningBench x = Bench.onePlot();
        int a = decided(x);
        x.day(40);
        CHECK.due("begun", x.build(a), BEGUN);
        told(x, a, BEGUN, 0, 0, 0, 0, 31, 40, NONE, 340, 0);
        CHECK.due("done on the same day", x.build(a), DONE);
        told(x, a, DONE, 0, 0, 0, 0, 31, 40, 40, NONE, 0);
        int b = x.apply(0, 10, 10, 12, 12, 1, 0);
        x.day(71);
        x.decide(b);
        CHECK.due("begun on the day it was decided", x.build(b), BEGUN);
    }

    private static void buildRefused() {
        CHECK.sentence("Promise 16", "NONE, doing nothing: none such.");
        PlanningBench x = scene();
        String before = Readout.of(x);
        int[] ways = {OPEN, REFUSED, DONE, ENDED};
        for (int way : ways) {
            CHECK.due("build(" + way + ")", x.build(way), NONE);
        }
        for (int none : NO_APPLICATION) {
            CHECK.due("build(" + none + ")", x.build(none), NONE);
        }
        CHECK.due("what is told then", Readout.of(x), before);
    }

    private static void appealAnswers() {
        CHECK.sentence("Promise 17", "An appeal: 0 won; else the RULE that it broke (it stays refused).");
        PlanningBench x = refused();
        CHECK.due("lost", x.appeal(0), 2);
        told(x, 0, REFUSED, 10, 0, 2, 0, 41, NONE, NONE, NONE, 1);
        x.day(50);
        Bench.adopt(x, "zone{plots 0;use 0;}", 10);
        CHECK.due("won", x.appeal(1), 0);
        told(x, 1, PERMITTED, 10, 0, 2, 0, 50, NONE, NONE, 450, 1);
        Bench.adopt(x, "zone{plots 0;use 1;}", 10);
        CHECK.due("lost by another rule", x.appeal(2), 3);
        told(x, 2, REFUSED, 10, 0, 2, 0, 41, NONE, NONE, NONE, 1);
    }

    private static void appealRefused() {
        CHECK.sentence("Promise 17", "NONE, doing nothing: it isn't refused, has been appealed, or it's late.");
        PlanningBench x = scene();
        String before = Readout.of(x);
        for (int way = OPEN; way <= ENDED; way++) {
            CHECK.due("appeal(" + way + "), late or not refused", x.appeal(way), NONE);
        }
        for (int none : NO_APPLICATION) {
            CHECK.due("appeal(" + none + ")", x.appeal(none), NONE);
        }
        CHECK.due("what is told then", Readout.of(x), before);
        PlanningBench y = refused();
        y.appeal(0);
        String appealed = Readout.of(y);
        CHECK.due("appealed", y.appeal(0), NONE);
        CHECK.due("what is told then", Readout.of(y), appealed);
    }

    private static void clashInsides() {
        CHECK.sentence("Promise 18",
            "How many of what STANDS TODAY (but itself) have a point of their insides in common with an APPLICATION's rectangle.");
        PlanningBench x = Bench.onePlot();
        Bench.square(x, 20, 0, 20);
        int[][] boxes = {{0, 0, 30, 20}, {5, 5, 10, 10}, {9, 9, 11, 11}, {0, 0, 5, 5}, {9, 9, 10, 11}, {11, 12, 14, 14}, {0, 6, 4, 14}};
        int[] want = {3, 0, 2, 0, 1, 0, 0};
        for (int[] b : boxes) {
            x.apply(0, b[0], b[1], b[2], b[3], 1, 0);
        }
        CHECK.due("nothing stands", x.clash(0), 0);
        Bench.done(x, 0, 10, 5, 15, 10);
        int second = Bench.done(x, 0, 5, 10, 10, 15);
        Bench.done(x, 1, 20, 0, 25, 5);
        for (int i = 0; i < want.length; i++) {
            CHECK.due("clash(" + i + ")", x.clash(i), want[i]);
        }
        CHECK.due("but itself", x.clash(second), 0);
        x.raze(second, 93);
        CHECK.due("razed since today", x.clash(0), 2);
        CHECK.due("razed", x.clash(2), 1);
    }

    private static void clashNone() {
        CHECK.sentence("Promise 18", "NONE: none such.");
        PlanningBench x = scene();
        int[] want = {1, 1, 1, 1, 0, 1, 1};
        for (int application = 0; application < 7; application++) {
            CHECK.due("clash(" + application + ")", x.clash(application), want[application]);
        }
        for (int none : NO_APPLICATION) {
            CHECK.due("clash(" + none + ")", x.clash(none), NONE);
        }
    }

    /** What is told of one that is applied for, objected to, decided, begun, done and razed. */
    private static void throughAllWays(int what, int... want) {
        PlanningBench x = Bench.onePlot();
        Bench.square(x, 20, 0, 20);
        x.day(1);
        for (int step = 0; step < 6; step++) {
            takeStep(x, step);
            CHECK.due("told(0, " + what + ") behind step " + step, x.told(0, what), want[step]);
        }
    }

    private static void takeStep(PlanningBench x, int step) {
        switch (step) {
            case 0:
                x.apply(1, 21, 1, 25, 5, 1, 0);
                break;
            case 1:
                x.object(0, 0);
                break;
            case 2:
                x.day(32);
                x.decide(0);
                break;
            case 5:
                x.raze(0, 34);
                break;
            default:
                x.day(30 + step);
                x.build(0);
                break;
        }
    }

    private static void toldWayDayAndPlot() {
        CHECK.sentence("Promise 19", "Of an APPLICATION: 0 how it is TODAY, 1 its day, 2 PLOT");
        throughAllWays(0, OPEN, OPEN, PERMITTED, BEGUN, DONE, DONE);
        throughAllWays(1, 1, 1, 1, 1, 1, 1);
        throughAllWays(2, 1, 1, 1, 1, 1, 1);
    }

    private static void toldWeight() {
        CHECK.sentence("Promise 19", "4 the weight of objections");
        throughAllWays(4, 0, 2, 2, 2, 2, 2);
    }

    private static void toldBegunAndDone() {
        CHECK.sentence("Promise 19", "6 the day it was begun (NONE), 7 done (NONE)");
        throughAllWays(6, NONE, NONE, NONE, 33, 33, 33);
        throughAllWays(7, NONE, NONE, NONE, NONE, 34, 34);
    }

    private static void toldDecidedOrWon() {
        CHECK.sentence("Promise 19", "5 the day it was DECIDED (or won; NONE)");
        PlanningBench x = refused();
        int open = applied(x);
        CHECK.due("open", x.told(open, 5), NONE);
        CHECK.due("refused", x.told(0, 5), 41);
        x.day(50);
        x.appeal(0);
        CHECK.due("lost", x.told(0, 5), 41);
        Bench.adopt(x, "zone{plots 0;use 0;}", 0);
        x.appeal(1);
        CHECK.due("won", x.told(1, 5), 50);
        x.day(60);
        CHECK.due("won, on another day", x.told(1, 5), 50);
    }

    private static void toldAppealed() {
        CHECK.sentence("Promise 19", "9 whether it was appealed (1).");
        PlanningBench x = refused();
        CHECK.due("not yet", x.told(0, 9), 0);
        x.appeal(0);
        CHECK.due("lost", x.told(0, 9), 1);
        Bench.adopt(x, "zone{plots 0;use 0;}", 0);
        x.appeal(1);
        CHECK.due("won", x.told(1, 9), 1);
        CHECK.due("another", x.told(2, 9), 0);
        x.day(102);
        x.appeal(2);
        CHECK.due("late", x.told(2, 9), 0);
    }

    private static void toldLastDays() {
        CHECK.sentence("Promise 19",
            "8 the last day on which it may go on: be objected to, begun, done, or appealed "
            + "(NONE otherwise; of a refused one that was appealed, too)");
        PlanningBench x = Bench.onePlot();
        x.day(10);
        int kept = applied(x);
        int lost = x.apply(0, 1, 1, 25, 5, 1, 0);
        int left = applied(x);
        CHECK.due("open", x.told(kept, 8), 40);
        x.day(100);
        x.decide(kept);
        x.decide(lost);
        x.decide(left);
        CHECK.due("permitted", x.told(kept, 8), 500);
        CHECK.due("refused", x.told(lost, 8), 160);
        x.day(110);
        x.build(kept);
        x.appeal(lost);
        CHECK.due("begun", x.told(kept, 8), 410);
        CHECK.due("refused and appealed", x.told(lost, 8), NONE);
        x.day(410);
        x.build(kept);
        CHECK.due("done", x.told(kept, 8), NONE);
        x.day(500);
        CHECK.due("permitted, on the last day", x.told(left, 8), 500);
        x.day(501);
        CHECK.due("ended", x.told(left, 8), NONE);
    }

    private static void toldRefusedBy() {
        CHECK.sentence("Promise 19", "3 by what it was refused (0: it wasn't; 9)");
        PlanningBench x = crowd();
        int fine = opposed(x, 10);
        int hated = opposed(x, 10, 1, 2, 3);
        CHECK.due("open", x.told(hated, 3), 0);
        x.day(31);
        x.decide(fine);
        x.decide(hated);
        CHECK.due("permitted", x.told(fine, 3), 0);
        CHECK.due("refused", x.told(hated, 3), 9);
        x.appeal(hated);
        CHECK.due("it was refused, though it was won", x.told(hated, 3), 9);
    }

    private static void toldNoneSuch() {
        CHECK.sentence("Promise 19", "NONE where there is none such.");
        PlanningBench x = scene();
        told(x, FRESH, OPEN, 450, 0, 0, 0, NONE, NONE, NONE, 480, 0, NONE, NONE);
        told(x, DONE, DONE, 0, 0, 0, 0, 100, 200, 200, NONE, 0, NONE);
        int[] whats = {-1, 10, 11, Bench.MIN, Bench.MAX};
        for (int what : whats) {
            CHECK.due("told(0, " + what + ")", x.told(0, what), NONE);
        }
        for (int none : NO_APPLICATION) {
            for (int what = 0; what <= 9; what++) {
                CHECK.due("told(" + none + ", " + what + ")", x.told(none, what), NONE);
            }
        }
    }
}
