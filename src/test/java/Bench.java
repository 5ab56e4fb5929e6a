/** Short ways for tests to tell a bench rings, texts and what leads an application somewhere. */
final class Bench {
    static final int NONE = PlanningBench.NONE;
    static final int MIN = Integer.MIN_VALUE;
    static final int MAX = Integer.MAX_VALUE;

    private Bench() {
    }

    /** Tells the corners x, y, x, y, .. and makes a plot of them. */
    static int plot(PlanningBench bench, int... corners) {
        for (int i = 0; i + 1 < corners.length; i += 2) {
            bench.corner(corners[i], corners[i + 1]);
        }
        return bench.plot();
    }

    static int square(PlanningBench bench, int x, int y, int size) {
        return plot(bench, x, y, x + size, y, x + size, y + size, x, y + size);
    }

    /** Puts a text of characters 0 to 255 on the tape, with blanks behind it up to a whole feed. */
    static void feed(PlanningBench bench, String text) {
        for (int i = 0; i < text.length(); i += 20) {
            bench.feed(word(text, i), word(text, i + 4), word(text, i + 8), word(text, i + 12), word(text, i + 16));
        }
    }

    private static int word(String text, int place) {
        int word = 0;
        for (int i = place; i < place + 4; i++) {
            word = word << 8 | (i < text.length() ? text.charAt(i) & 255 : ' ');
        }
        return word;
    }

    static int adopt(PlanningBench bench, String text, int from) {
        feed(bench, text);
        return bench.adopt(text.length(), from);
    }

    /** The fault of a text on a new bench; NONE: it is a plan. */
    static int fault(String text) {
        PlanningBench bench = new PlanningBench();
        adopt(bench, text, 0);
        return bench.fault();
    }

    /** A bench with one plot, 0 to 20 both ways, and a plan that allows uses 0 to 3 there. */
    static PlanningBench onePlot() {
        PlanningBench bench = new PlanningBench();
        square(bench, 0, 0, 20);
        adopt(bench, "zone{plots 0 1 2 3;use 0 1 2 3;}", 0);
        return bench;
    }

    /** Applies, waits for 31 days, decides and builds: the application's number. */
    static int done(PlanningBench bench, int plot, int x0, int y0, int x1, int y1) {
        int application = bench.apply(plot, x0, y0, x1, y1, 1, 0);
        bench.day(bench.count(0) + 31);
        bench.decide(application);
        bench.build(application);
        bench.build(application);
        return application;
    }
}
