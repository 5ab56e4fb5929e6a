import java.math.BigInteger;
import java.util.ArrayList;
import java.util.Arrays;
import java.util.List;
import java.util.Random;

/**
 * Promises 4, 6 and 12 over made-up rings: roundness against a hull, overlaps against exact
 * clipping, distances and edges against measured ones. Always the same numbers, by the seed.
 */
public final class GeometryTest {
    private static final Check CHECK = new Check("GeometryTest");
    private static final Random RANDOM = new Random(20261116);
    /** Squared distances of whole corners differ from squares by 1 / 7938 at least, or not at all. */
    private static final double TINY = 1e-8;

    public static void main(String[] args) {
        for (int i = 0; i < 6000; i++) {
            roundness(2 + RANDOM.nextInt(5));
        }
        for (int i = 0; i < 6000; i++) {
            pair(i % 3 == 0 ? 63 : 4 + RANDOM.nextInt(16));
        }
        for (int i = 0; i < 3000; i++) {
            edges(i % 2 == 0 ? 63 : 12);
        }
        CHECK.finish();
    }

    private static void roundness(int size) {
        int count = 1 + RANDOM.nextInt(8);
        int[][] points = points(count, size);
        if (RANDOM.nextBoolean()) {
            points = turned(hull(points), RANDOM.nextInt(8));
        }
        PlanningBench bench = new PlanningBench();
        int got = Bench.plot(bench, flat(points));
        CHECK.due("plot() of " + Arrays.deepToString(points), got, isRound(points) ? 0 : Bench.NONE);
    }

    private static boolean isRound(int[][] points) {
        int[][] hull = hull(points);
        if (points.length < 3 || hull.length != points.length) {
            return false;
        }
        for (int i = 0; i < hull.length; i++) {
            if (Arrays.deepEquals(turned(hull, i), points)) {
                return true;
            }
        }
        return false;
    }

    private static void pair(int size) {
        int[][] a = ring(size);
        int[][] b = ring(size);
        PlanningBench bench = new PlanningBench();
        Bench.plot(bench, flat(a));
        int second = Bench.plot(bench, flat(b));
        String names = Arrays.deepToString(a) + " and " + Arrays.deepToString(b);
        boolean overlap = hasInside(clip(a, b));
        CHECK.due("overlap of " + names, second, overlap ? Bench.NONE : 1);
        if (overlap) {
            return;
        }
        double distance = distance(a, b);
        int near = (int) Math.round(distance);
        for (int d = Math.max(0, near - 1); d <= near + 1; d++) {
            CHECK.due("near at " + d + " of " + names, bench.near(0, 1, d), distance <= d + TINY);
        }
    }

    private static void edges(int size) {
        int[][] a = ring(size);
        int x0 = RANDOM.nextInt(size);
        int y0 = RANDOM.nextInt(size);
        int x1 = x0 + 1 + RANDOM.nextInt(Math.max(1, (size - x0) / 3));
        int y1 = y0 + 1 + RANDOM.nextInt(Math.max(1, (size - y0) / 3));
        int[][] box = {{x0, y0}, {x1, y0}, {x1, y1}, {x0, y1}};
        String names = Arrays.deepToString(box) + " in " + Arrays.deepToString(a);
        boolean inside = hull(joined(a, box)).length == a.length && Arrays.deepEquals(hull(joined(a, box)), hull(a));
        double distance = distance(a, box);
        int near = (int) Math.round(distance);
        for (int edge = Math.max(0, near - 1); edge <= near + 1; edge++) {
            PlanningBench bench = new PlanningBench();
            Bench.plot(bench, flat(a));
            Bench.adopt(bench, "zone{plots 0;use 0;edge " + edge + ";}", 0);
            int want = !inside ? 1 : distance < edge - TINY ? 6 : 0;
            CHECK.due("edge " + edge + " of " + names, bench.judge(0, x0, y0, x1, y1, 1, 0, 0, 0), want);
        }
    }

    private static int[][] points(int count, int size) {
        int[][] points = new int[count][];
        for (int i = 0; i < count; i++) {
            points[i] = new int[] {RANDOM.nextInt(size + 1), RANDOM.nextInt(size + 1)};
        }
        return points;
    }

    private static int[][] ring(int size) {
        for (int i = 0; i < 1000; i++) {
            int[][] ring = hull(points(3 + RANDOM.nextInt(8), size));
            if (ring.length >= 3 && ring.length <= 8) {
                return ring;
            }
        }
        throw new IllegalStateException("no ring came");
    }

    private static int[][] joined(int[][] a, int[][] b) {
        int[][] all = Arrays.copyOf(a, a.length + b.length);
        System.arraycopy(b, 0, all, a.length, b.length);
        return all;
    }

    private static int[][] turned(int[][] ring, int by) {
        int[][] turned = new int[ring.length][];
        for (int i = 0; i < ring.length; i++) {
            turned[i] = ring[(i + by) % ring.length];
        }
        return turned;
    }

    private static int[] flat(int[][] points) {
        return Arrays.stream(points).flatMapToInt(Arrays::stream).toArray();
    }

    /** The hull's corners, round to the left, by a chain below and a chain above. */
    private static int[][] hull(int[][] points) {
        if (points.length < 3) {
            return points;
        }
        int[][] sorted = points.clone();
        Arrays.sort(sorted, (p, q) -> p[0] != q[0] ? p[0] - q[0] : p[1] - q[1]);
        List<int[]> below = chain(sorted);
        int[][] back = turnedRound(sorted);
        List<int[]> above = chain(back);
        below.remove(below.size() - 1);
        above.remove(above.size() - 1);
        below.addAll(above);
        return below.toArray(new int[0][]);
    }

    private static int[][] turnedRound(int[][] points) {
        int[][] back = new int[points.length][];
        for (int i = 0; i < points.length; i++) {
            back[i] = points[points.length - 1 - i];
        }
        return back;
    }

    private static List<int[]> chain(int[][] sorted) {
        List<int[]> chain = new ArrayList<>();
        for (int[] p : sorted) {
            if (!chain.isEmpty() && Arrays.equals(chain.get(chain.size() - 1), p)) {
                continue;
            }
            while (chain.size() >= 2 && turn(chain.get(chain.size() - 2), chain.get(chain.size() - 1), p) <= 0) {
                chain.remove(chain.size() - 1);
            }
            chain.add(p);
        }
        return chain;
    }

    private static int turn(int[] a, int[] b, int[] c) {
        return (b[0] - a[0]) * (c[1] - a[1]) - (b[1] - a[1]) * (c[0] - a[0]);
    }

    /** What of ring a is in ring b, its corners as x, y over w in whole numbers of any size. */
    private static List<BigInteger[]> clip(int[][] a, int[][] b) {
        List<BigInteger[]> left = new ArrayList<>();
        for (int[] p : a) {
            left.add(new BigInteger[] {BigInteger.valueOf(p[0]), BigInteger.valueOf(p[1]), BigInteger.ONE});
        }
        for (int i = 0; i < b.length && !left.isEmpty(); i++) {
            left = clipBySide(left, b[i], b[(i + 1) % b.length]);
        }
        return left;
    }

    private static List<BigInteger[]> clipBySide(List<BigInteger[]> ring, int[] from, int[] to) {
        List<BigInteger[]> kept = new ArrayList<>();
        for (int i = 0; i < ring.size(); i++) {
            BigInteger[] p = ring.get(i);
            BigInteger[] q = ring.get((i + 1) % ring.size());
            BigInteger ofP = side(p, from, to);
            BigInteger ofQ = side(q, from, to);
            if (ofP.signum() >= 0) {
                kept.add(p);
            }
            if (ofP.signum() * ofQ.signum() < 0) {
                kept.add(between(p, q, ofQ, ofP.negate()));
            }
        }
        return kept;
    }

    private static BigInteger side(BigInteger[] p, int[] from, int[] to) {
        BigInteger dx = BigInteger.valueOf(to[0] - from[0]);
        BigInteger dy = BigInteger.valueOf(to[1] - from[1]);
        BigInteger px = p[0].subtract(p[2].multiply(BigInteger.valueOf(from[0])));
        BigInteger py = p[1].subtract(p[2].multiply(BigInteger.valueOf(from[1])));
        return dx.multiply(py).subtract(dy.multiply(px));
    }

    private static BigInteger[] between(BigInteger[] p, BigInteger[] q, BigInteger ofP, BigInteger ofQ) {
        BigInteger[] r = new BigInteger[3];
        for (int i = 0; i < 3; i++) {
            r[i] = p[i].multiply(ofP).add(q[i].multiply(ofQ));
        }
        if (r[2].signum() < 0) {
            for (int i = 0; i < 3; i++) {
                r[i] = r[i].negate();
            }
        }
        return r;
    }

    private static boolean hasInside(List<BigInteger[]> ring) {
        for (int i = 0; i < ring.size(); i++) {
            for (int j = 0; j < i; j++) {
                for (int k = 0; k < j; k++) {
                    if (determinant(ring.get(i), ring.get(j), ring.get(k)).signum() != 0) {
                        return true;
                    }
                }
            }
        }
        return false;
    }

    private static BigInteger determinant(BigInteger[] a, BigInteger[] b, BigInteger[] c) {
        BigInteger first = a[0].multiply(b[1].multiply(c[2]).subtract(b[2].multiply(c[1])));
        BigInteger second = a[1].multiply(b[0].multiply(c[2]).subtract(b[2].multiply(c[0])));
        BigInteger third = a[2].multiply(b[0].multiply(c[1]).subtract(b[1].multiply(c[0])));
        return first.subtract(second).add(third);
    }

    /** The least distance of two rings' sides that don't cross. */
    private static double distance(int[][] a, int[][] b) {
        double least = Double.MAX_VALUE;
        for (int i = 0; i < a.length; i++) {
            for (int j = 0; j < b.length; j++) {
                int[] a2 = a[(i + 1) % a.length];
                int[] b2 = b[(j + 1) % b.length];
                least = Math.min(least, Math.min(distance(a[i], b[j], b2), distance(b[j], a[i], a2)));
            }
        }
        return least;
    }

    private static double distance(int[] p, int[] a, int[] b) {
        double dx = b[0] - a[0];
        double dy = b[1] - a[1];
        double t = ((p[0] - a[0]) * dx + (p[1] - a[1]) * dy) / (dx * dx + dy * dy);
        t = Math.max(0, Math.min(1, t));
        return Math.hypot(p[0] - a[0] - t * dx, p[1] - a[1] - t * dy);
    }
}
