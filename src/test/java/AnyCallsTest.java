import java.util.Arrays;
import java.util.Random;

/**
 * Any calls with any numbers: an exception of the machine would end this test with a failure. A
 * twin is spared every call that is to do nothing, and must answer all others alike.
 */
public final class AnyCallsTest {
    private static final Check CHECK = new Check("AnyCallsTest");
    private static final Random RANDOM = new Random(512);
    private static final int CALLS = 512;
    private static final int[] EDGES = {
        Integer.MIN_VALUE, Integer.MIN_VALUE + 1, -10000, -64, -2, -1, 0, 1, 2, 3, 7, 8, 9, 11, 12, 19, 20, 21, 39, 40, 41,
        63, 64, 99, 100, 101, 600, 601, 9998, 9999, 10000, Integer.MAX_VALUE - 1, Integer.MAX_VALUE,
    };
    private static final String[] TEXTS = {
        "zone{plots 0 1 2 3 4 5;use 0 1 2 3;}", "zone{plots 0 1;use 0 1;height 20;cover 60;edge 1;shade 5;}", "zone{", "zone{plots 2;use 1;shade 40;}",
    };
    /** How many numbers each call of the face takes, in the document's order. */
    private static final int[] TAKES = {1, 2, 0, 2, 3, 5, 2, 0, 2, 3, 9, 7, 2, 1, 1, 1, 1, 2, 2, 3, 3, 3, 1};
    private static final int DAY = 0;
    private static final int CORNER = 1;
    private static final int PLOT = 2;
    private static final int FEED = 5;
    private static final int ADOPT = 6;
    private static final int APPLY = 11;
    private static final int OBJECT = 12;
    private static final int APPEAL = 15;
    private static final int RAZE = 18;
    private static final int HOLD = 20;

    public static void main(String[] args) {
        for (int i = 0; i < 1500; i++) {
            run(new PlanningBench(), new PlanningBench(), i % 2 == 0);
        }
        CHECK.finish();
    }

    private static void run(PlanningBench bench, PlanningBench twin, boolean withPlots) {
        int calls = 0;
        for (int i = 0; withPlots && i < 6; i++) {
            Bench.square(bench, 10 * i, 10 * (i % 2), 10);
            Bench.square(twin, 10 * i, 10 * (i % 2), 10);
            calls += 5;
        }
        while (calls < CALLS - 5) {
            if (RANDOM.nextInt(26) == 0) {
                String text = TEXTS[RANDOM.nextInt(TEXTS.length)];
                int from = RANDOM.nextInt(100);
                CHECK.due("adopt", Bench.adopt(bench, text, from), Bench.adopt(twin, text, from));
                calls += 4;
                continue;
            }
            int kind = RANDOM.nextInt(TAKES.length);
            int[] numbers = numbersFor(bench, kind);
            calls += kind == DAY || kind == RAZE ? 2 : 1;
            int got = answer(bench, kind, numbers);
            if (!doesNothing(kind, got)) {
                CHECK.due("call " + kind + " of " + Arrays.toString(numbers) + " to the twin", answer(twin, kind, numbers), got);
            }
        }
    }

    /** Whether it is one of the calls that change something, and was refused. */
    private static boolean doesNothing(int kind, int got) {
        switch (kind) {
            case DAY:
            case RAZE:
            case HOLD:
                return got == 0;
            case ADOPT:
                return got < Bench.NONE;
            case CORNER:
            case FEED:
            case APPLY:
                return got == Bench.NONE;
            default:
                return kind >= OBJECT && kind <= APPEAL && got < 0;
        }
    }

    private static int[] numbersFor(PlanningBench x, int kind) {
        int[] numbers = new int[TAKES[kind]];
        for (int i = 0; i < numbers.length; i++) {
            numbers[i] = any();
        }
        if (kind == DAY) {
            numbers[0] = x.count(0) + any() % 50;
        } else if (kind == RAZE) {
            numbers[1] = x.count(0) - any() % 10;
        } else if (kind == APPLY && RANDOM.nextInt(3) != 0) {
            int plot = RANDOM.nextInt(6);
            int left = 10 * plot + RANDOM.nextInt(5);
            int low = 10 * (plot % 2) + RANDOM.nextInt(5);
            return new int[] {plot, left, low, left + 1 + RANDOM.nextInt(5), low + 1 + RANDOM.nextInt(5), 5, RANDOM.nextInt(3)};
        }
        return numbers;
    }

    /** Any number: mostly a small one, so that calls find something. */
    private static int any() {
        int kind = RANDOM.nextInt(10);
        if (kind == 0) {
            return EDGES[RANDOM.nextInt(EDGES.length)];
        }
        return kind == 1 ? RANDOM.nextInt(64) : RANDOM.nextInt(12);
    }

    private static int answer(PlanningBench x, int kind, int[] n) {
        switch (kind) {
            case DAY:
                return x.day(n[0]) ? 1 : 0;
            case CORNER:
                return x.corner(n[0], n[1]);
            case PLOT:
                return x.plot();
            case 3:
                return x.ring(n[0], n[1]);
            case 4:
                return x.near(n[0], n[1], n[2]) ? 1 : 0;
            case FEED:
                return x.feed(n[0], n[1], n[2], n[3], n[4]);
            case ADOPT:
                return x.adopt(n[0], n[1]);
            case 7:
                return x.fault();
            case 8:
                return x.plan(n[0], n[1]);
            case 9:
                return x.zone(n[0], n[1], n[2]);
            case 10:
                return x.judge(n[0], n[1], n[2], n[3], n[4], n[5], n[6], n[7], n[8]);
            case APPLY:
                return x.apply(n[0], n[1], n[2], n[3], n[4], n[5], n[6]);
            default:
                return answerOfApplications(x, kind, n);
        }
    }

    private static int answerOfApplications(PlanningBench x, int kind, int[] n) {
        switch (kind) {
            case OBJECT:
                return x.object(n[0], n[1]);
            case 13:
                return x.decide(n[0]);
            case 14:
                return x.build(n[0]);
            case APPEAL:
                return x.appeal(n[0]);
            case 16:
                return x.clash(n[0]);
            case 17:
                return x.told(n[0], n[1]);
            case RAZE:
                return x.raze(n[0], n[1]) ? 1 : 0;
            case 19:
                return x.stands(n[0], n[1], n[2]) ? 1 : 0;
            case HOLD:
                return x.hold(n[0], n[1], n[2]) ? 1 : 0;
            case 21:
                return x.holder(n[0], n[1], n[2]);
            default:
                return x.count(n[0]);
        }
    }
}
