/** Promises 18, 20 and 21: clash, raze, stands. */
public final class StandingTest {
    private static final Check CHECK = new Check("StandingTest");

    public static void main(String[] args) {
        standsFromTheDayItWasDone();
        wrongInputsDontStand();
        razeByDays();
        razeRefuses();
        razedOnItsOwnDay();
        clashCountsInsides();
        clashIsOfToday();
        rebuiltWhereItWasRazed();
        CHECK.finish();
    }

    private static void stood(PlanningBench x, int application, int day, int known, boolean want) {
        CHECK.due("stands(" + application + ", " + day + ", " + known + ")", x.stands(application, day, known), want);
    }

    private static void standsFromTheDayItWasDone() {
        PlanningBench x = Bench.onePlot();
        int a = x.apply(0, 1, 1, 5, 5, 1, 0);
        stood(x, a, 0, 0, false);
        x.day(31);
        x.decide(a);
        stood(x, a, 31, 31, false);
        x.build(a);
        x.day(40);
        stood(x, a, 40, 40, false);
        x.build(a);
        stood(x, a, 40, 40, true);
        stood(x, a, 39, 40, false);
        stood(x, a, 40, 39, false);
        stood(x, a, 9999, 40, true);
        stood(x, a, 40, 9999, true);
        stood(x, a, 9999, 9999, true);
        stood(x, a, 9999, 39, false);
        stood(x, a, 0, 9999, false);
    }

    private static void wrongInputsDontStand() {
        PlanningBench x = Bench.onePlot();
        int a = Bench.done(x, 0, 1, 1, 5, 5);
        stood(x, a, 31, 31, true);
        stood(x, -1, 31, 31, false);
        stood(x, 1, 31, 31, false);
        stood(x, Bench.MAX, 31, 31, false);
        stood(x, a, -1, 31, false);
        stood(x, a, 31, -1, false);
        stood(x, a, 10000, 31, false);
        stood(x, a, 31, 10000, false);
        stood(x, a, Bench.MAX, Bench.MAX, false);
    }

    private static void razeByDays() {
        PlanningBench x = Bench.onePlot();
        int a = Bench.done(x, 0, 1, 1, 5, 5);
        x.day(100);
        CHECK.due("raze(a, 60)", x.raze(a, 60), true);
        stood(x, a, 59, 100, true);
        stood(x, a, 60, 100, false);
        stood(x, a, 60, 99, true);
        stood(x, a, 100, 100, false);
        stood(x, a, 9999, 9999, false);
        stood(x, a, 31, 31, true);
        stood(x, a, 30, 100, false);
        CHECK.due("it stays done", x.told(a, 0), 4);
        CHECK.due("the day it was done stays", x.told(a, 7), 31);
        CHECK.due("once only", x.raze(a, 60), false);
        CHECK.due("nor another day", x.raze(a, 100), false);
        stood(x, a, 59, 100, true);
    }

    private static void razeRefuses() {
        PlanningBench x = Bench.onePlot();
        int a = x.apply(0, 1, 1, 5, 5, 1, 0);
        CHECK.due("open", x.raze(a, 0), false);
        x.day(31);
        x.decide(a);
        CHECK.due("permitted", x.raze(a, 31), false);
        x.build(a);
        CHECK.due("begun", x.raze(a, 31), false);
        x.day(35);
        x.build(a);
        x.day(50);
        CHECK.due("ahead of its own day", x.raze(a, 34), false);
        CHECK.due("behind today", x.raze(a, 51), false);
        CHECK.due("no such day", x.raze(a, -1), false);
        CHECK.due("raze(a, MAX)", x.raze(a, Bench.MAX), false);
        CHECK.due("raze(a, MIN)", x.raze(a, Bench.MIN), false);
        CHECK.due("raze(-1, 40)", x.raze(-1, 40), false);
        CHECK.due("raze(1, 40)", x.raze(1, 40), false);
        CHECK.due("raze(MAX, 40)", x.raze(Bench.MAX, 40), false);
        CHECK.due("it stands still", x.count(6), 1);
        CHECK.due("today", x.raze(a, 50), true);
        stood(x, a, 49, 50, true);
        stood(x, a, 50, 50, false);
        CHECK.due("it doesn't stand today", x.count(6), 0);
    }

    private static void razedOnItsOwnDay() {
        PlanningBench x = Bench.onePlot();
        int a = Bench.done(x, 0, 1, 1, 5, 5);
        x.day(40);
        CHECK.due("since its own day", x.raze(a, 31), true);
        stood(x, a, 31, 40, false);
        stood(x, a, 31, 39, true);
    }

    private static void clashCountsInsides() {
        PlanningBench x = Bench.onePlot();
        int whole = x.apply(0, 0, 0, 20, 20, 1, 0);
        int beside = x.apply(0, 5, 5, 10, 10, 1, 0);
        int over = x.apply(0, 4, 9, 6, 11, 1, 0);
        CHECK.due("nothing stands", x.clash(whole), 0);
        int first = Bench.done(x, 0, 0, 5, 5, 10);
        int second = Bench.done(x, 0, 10, 5, 15, 10);
        CHECK.due("whole", x.clash(whole), 2);
        CHECK.due("sides touch only", x.clash(beside), 0);
        CHECK.due("over a corner", x.clash(over), 1);
        CHECK.due("not itself", x.clash(first), 0);
        CHECK.due("not itself either", x.clash(second), 0);
        CHECK.due("clash(-1)", x.clash(-1), Bench.NONE);
        CHECK.due("clash(5)", x.clash(5), Bench.NONE);
        CHECK.due("clash(MAX)", x.clash(Bench.MAX), Bench.NONE);
        CHECK.due("clash(MIN)", x.clash(Bench.MIN), Bench.NONE);
    }

    private static void clashIsOfToday() {
        PlanningBench x = Bench.onePlot();
        int a = x.apply(0, 1, 1, 5, 5, 1, 0);
        int b = x.apply(0, 2, 2, 6, 6, 1, 0);
        x.day(31);
        CHECK.due("both may be permitted", x.decide(a), 0);
        CHECK.due("by their day", x.decide(b), 0);
        x.build(a);
        CHECK.due("begun doesn't stand", x.clash(b), 0);
        x.build(a);
        CHECK.due("done stands", x.clash(b), 1);
        x.build(b);
        x.build(b);
        CHECK.due("each meets the other", x.clash(a), 1);
        x.day(40);
        x.raze(a, 35);
        CHECK.due("a doesn't stand", x.clash(b), 0);
        CHECK.due("b does", x.clash(a), 1);
    }

    private static void rebuiltWhereItWasRazed() {
        PlanningBench x = Bench.onePlot();
        int a = Bench.done(x, 0, 1, 1, 5, 5);
        int b = x.apply(0, 1, 1, 5, 5, 1, 0);
        x.day(62);
        CHECK.due("a stands there", x.decide(b), 7);
        x.day(70);
        x.raze(a, 32);
        CHECK.due("it stood on the application's day", x.appeal(b), 7);
        int c = x.apply(0, 1, 1, 5, 5, 1, 0);
        x.day(101);
        CHECK.due("it doesn't stand now", x.decide(c), 0);
    }
}
