/** Promises 1, 2 and 24: a new object, day, count. */
public final class StartTest {
    private static final Check CHECK = new Check("StartTest");

    public static void main(String[] args) {
        newObjectIsEmpty();
        dayGoesForwardOnly();
        countTellsEach();
        objectsAreApart();
        CHECK.finish();
    }

    private static void newObjectIsEmpty() {
        PlanningBench x = new PlanningBench();
        for (int what = 0; what <= 6; what++) {
            CHECK.due("new count(" + what + ")", x.count(what), 0);
        }
        CHECK.due("new fault()", x.fault(), Bench.NONE);
        CHECK.due("new plan(0, 0)", x.plan(0, 0), Bench.NONE);
        CHECK.due("new ring(0, 0)", x.ring(0, 0), Bench.NONE);
        CHECK.due("new told(0, 0)", x.told(0, 0), Bench.NONE);
        CHECK.due("new holder(0, 0, 0)", x.holder(0, 0, 0), Bench.NONE);
        CHECK.due("new stands(0, 0, 0)", x.stands(0, 0, 0), false);
        CHECK.due("NONE", PlanningBench.NONE, -1);
    }

    private static void dayGoesForwardOnly() {
        PlanningBench x = new PlanningBench();
        CHECK.due("day(0) on 0", x.day(0), false);
        CHECK.due("day(-1)", x.day(-1), false);
        CHECK.due("day(MIN)", x.day(Bench.MIN), false);
        CHECK.due("day(1)", x.day(1), true);
        CHECK.due("today is 1", x.count(0), 1);
        CHECK.due("day(1) again", x.day(1), false);
        CHECK.due("day(0) behind", x.day(0), false);
        CHECK.due("day(10000)", x.day(10000), false);
        CHECK.due("day(MAX)", x.day(Bench.MAX), false);
        CHECK.due("today is still 1", x.count(0), 1);
        CHECK.due("day(9999)", x.day(9999), true);
        CHECK.due("today is 9999", x.count(0), 9999);
        CHECK.due("day(9999) again", x.day(9999), false);
    }

    private static void countTellsEach() {
        PlanningBench x = Bench.onePlot();
        Bench.square(x, 30, 30, 10);
        x.corner(1, 1);
        x.corner(2, 2);
        x.corner(3, 3);
        x.feed(0, 0, 0, 0, 0);
        x.feed(0, 0, 0, 0, 0);
        int first = Bench.done(x, 0, 1, 1, 2, 2);
        Bench.done(x, 0, 3, 3, 4, 4);
        x.apply(0, 5, 5, 6, 6, 1, 1);
        CHECK.due("count(0)", x.count(0), 62);
        CHECK.due("count(1)", x.count(1), 2);
        CHECK.due("count(2)", x.count(2), 1);
        CHECK.due("count(3)", x.count(3), 3);
        CHECK.due("count(4)", x.count(4), 40);
        CHECK.due("count(5)", x.count(5), 3);
        CHECK.due("count(6)", x.count(6), 2);
        x.raze(first, 40);
        CHECK.due("count(6) behind raze", x.count(6), 1);
        CHECK.due("count(7)", x.count(7), Bench.NONE);
        CHECK.due("count(-1)", x.count(-1), Bench.NONE);
        CHECK.due("count(MAX)", x.count(Bench.MAX), Bench.NONE);
        CHECK.due("count(MIN)", x.count(Bench.MIN), Bench.NONE);
    }

    private static void objectsAreApart() {
        PlanningBench x = new PlanningBench();
        x.day(5);
        x.corner(1, 1);
        x.feed(1, 2, 3, 4, 5);
        PlanningBench y = new PlanningBench();
        CHECK.due("another's today", y.count(0), 0);
        CHECK.due("another's tape", y.count(4), 0);
        CHECK.due("another's corners", y.count(5), 0);
    }
}
