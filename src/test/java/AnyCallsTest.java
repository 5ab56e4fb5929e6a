import java.util.Random;

/**
 * Any calls with any numbers: an exception of the machine would end this test with a failure.
 * What answers NONE or false must leave every count as it was, but for plot() and adopt().
 */
public final class AnyCallsTest {
    private static final Check CHECK = new Check("AnyCallsTest");
    private static final Random RANDOM = new Random(512);
    private static final int[] EDGES = {
        Integer.MIN_VALUE, Integer.MIN_VALUE + 1, -10000, -64, -2, -1, 0, 1, 2, 3, 7, 8, 9, 11, 12, 19, 20, 21, 39, 40, 41,
        63, 64, 99, 100, 101, 600, 601, 9998, 9999, 10000, Integer.MAX_VALUE - 1, Integer.MAX_VALUE,
    };
    private static final String[] TEXTS = {
        "zone{plots 0 1 2 3 4 5;use 0 1 2 3;}", "zone{plots 0 1;use 0 1;height 20;cover 60;edge 1;shade 5;}", "zone{", "zone{plots 2;use 1;shade 40;}",
    };

    public static void main(String[] args) {
        for (int i = 0; i < 1500; i++) {
            run(new PlanningBench(), i % 2 == 0);
        }
        CHECK.finish();
    }

    private static void run(PlanningBench x, boolean withPlots) {
        int calls = 0;
        if (withPlots) {
            for (int i = 0; i < 6; i++) {
                Bench.square(x, 10 * i, 10 * (i % 2), 10);
                calls += 5;
            }
        }
        while (calls < 490) {
            int kind = RANDOM.nextInt(26);
            if (kind == 25) {
                Bench.adopt(x, TEXTS[RANDOM.nextInt(TEXTS.length)], RANDOM.nextInt(100));
                calls += 5;
                continue;
            }
            long before = state(x);
            boolean idle = !call(x, kind);
            if (idle) {
                CHECK.due("the state behind an idle call of kind " + kind, state(x), before);
            }
            calls++;
        }
    }

    private static long state(PlanningBench x) {
        long state = 0;
        for (int what = 0; what <= 6; what++) {
            state = 31 * state + x.count(what);
        }
        for (int application = 0; application < x.count(3); application++) {
            for (int what = 0; what <= 9; what++) {
                state = 31 * state + x.told(application, what);
            }
        }
        for (int plot = 0; plot < x.count(1); plot++) {
            state = 31 * state + x.holder(plot, 9999, 9999);
        }
        return 31 * state + x.plan(9999, 9999);
    }

    /** Any number: mostly a small one, so that calls find something. */
    private static int n() {
        int kind = RANDOM.nextInt(10);
        if (kind == 0) {
            return EDGES[RANDOM.nextInt(EDGES.length)];
        }
        return kind == 1 ? RANDOM.nextInt(64) : RANDOM.nextInt(12);
    }

    /** Whether the call may have changed anything. */
    private static boolean call(PlanningBench x, int kind) {
        switch (kind) {
            case 0:
                return x.day(x.count(0) + n() % 50);
            case 1:
                return x.corner(n(), n()) != -1;
            case 2:
                x.plot();
                return true;
            case 3:
                x.ring(n(), n());
                return false;
            case 4:
                x.near(n(), n(), n());
                return false;
            case 5:
                return x.feed(n(), n(), n(), n(), n()) != -1;
            case 6:
                return x.adopt(n(), n()) > -2;
            case 7:
                x.fault();
                return false;
            case 8:
                x.plan(n(), n());
                return false;
            case 9:
                x.zone(n(), n(), n());
                return false;
            case 10:
                x.judge(n(), n(), n(), n(), n(), n(), n(), n(), n());
                return false;
            case 11:
                return x.apply(n(), n(), n(), n(), n(), n(), n()) != -1;
            case 12:
                return applyWell(x);
            default:
                return callOnApplications(x, kind);
        }
    }

    private static boolean applyWell(PlanningBench x) {
        int plot = RANDOM.nextInt(6);
        int left = 10 * plot + RANDOM.nextInt(5);
        int low = 10 * (plot % 2) + RANDOM.nextInt(5);
        return x.apply(plot, left, low, left + 1 + RANDOM.nextInt(5), low + 1 + RANDOM.nextInt(5), 5, RANDOM.nextInt(3)) != -1;
    }

    private static boolean callOnApplications(PlanningBench x, int kind) {
        switch (kind) {
            case 13:
            case 14:
                return x.object(n(), n()) >= 0;
            case 15:
            case 16:
                return x.decide(n()) != -1;
            case 17:
            case 18:
                return x.build(n()) != -1;
            case 19:
                return x.appeal(n()) != -1;
            case 20:
                x.clash(n());
                return false;
            case 21:
                x.told(n(), n());
                return false;
            case 22:
                return x.raze(n(), x.count(0) - n() % 10);
            case 23:
                x.stands(n(), n(), n());
                x.holder(n(), n(), n());
                x.count(n());
                return false;
            default:
                return x.hold(n(), n(), n());
        }
    }
}
