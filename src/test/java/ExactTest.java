import java.math.BigDecimal;
import java.util.Random;

/**
 * Three corners a, c, b (c between the others) that stand in line, or nearly so, and are of so different
 * sizes that doubles often tell the side wrongly: all that is told of them, and of lands round them, is
 * exact. What is due follows from the exact side of c alone. By the promises' numbers.
 */
public final class ExactTest {
    private static final double[] SIZES = {0x1p-12, 0x1p-4, 1, 0x1p6, 0x1p12, 0x1p20};
    private static final double[] SLOPES = {1, 3, 5, 0.75, -1, -3, -0.625};

    private final Random random;
    private final double slope;
    private final boolean turned;
    private double[] a, b, c;
    private double[] left, right;
    private int side;
    private String what;

    private ExactTest(int seed) {
        random = new Random(seed);
        slope = SLOPES[seed % SLOPES.length];
        turned = seed / SLOPES.length % 2 == 1;
        inLine(seed);
        double k = 0x1p26 / (Math.abs(b[0] - a[0]) + Math.abs(b[1] - a[1]));
        left = new double[] {(a[1] - b[1]) * k, (b[0] - a[0]) * k};
        right = new double[] {-left[0], -left[1]};
        side = side(a, b, c);
        what = ", seed " + seed + ", side " + side;
    }

    public static void main(String[] args) {
        int[] told = new int[3];
        int wrongly = 0;
        for (int seed = 0; seed < 1400; seed++) {
            ExactTest test = new ExactTest(seed);
            told[test.side + 1]++;
            wrongly += test.side == estimate(test.a, test.b, test.c) ? 0 : 1;
            test.all();
        }
        Bench.due("enough to the right, in line, to the left", Math.min(told[0], Math.min(told[1], told[2])) > 300 ? 1 : 0, 1);
        Bench.due("enough that the estimate tells wrongly", wrongly > 300 ? 1 : 0, 1);
        Bench.end();
    }

    private void all() {
        sides();
        segments();
        slivers();
        places();
        ways();
        waysFromTheLine();
        cuts();
        bends();
        distances();
    }

    // ---- the corners

    /** a and b either way, c between them, off the line by no more than its last bit. */
    private void inLine(int seed) {
        double[][] some = {onLine(), onLine(), onLine()};
        for (int i = 0; i < 2; i++) {
            for (int k = 0; k < 2; k++) {
                if (some[k][turned ? 1 : 0] > some[k + 1][turned ? 1 : 0]) {
                    double[] was = some[k];
                    some[k] = some[k + 1];
                    some[k + 1] = was;
                }
            }
        }
        boolean back = random.nextBoolean();
        a = back ? some[2] : some[0];
        b = back ? some[0] : some[2];
        c = off(some[1], seed % 3 - 1);
    }

    private double[] onLine() {
        double size = SIZES[random.nextInt(SIZES.length)] * (random.nextBoolean() ? 1 : -1);
        double along = size * (1 + random.nextInt(1 << 30) * 0x1p-30 + random.nextInt(1 << 18) * 0x1p-48);
        return turned ? new double[] {slope * along, along} : new double[] {along, slope * along};
    }

    private double[] off(double[] at, int step) {
        double y = step > 0 ? Math.nextUp(at[1]) : step < 0 ? Math.nextDown(at[1]) : at[1];
        return new double[] {at[0], y};
    }

    private static int side(double[] a, double[] b, double[] c) {
        return by(a, c, 0).multiply(by(b, c, 1)).compareTo(by(a, c, 1).multiply(by(b, c, 0)));
    }

    private static BigDecimal by(double[] p, double[] q, int axis) {
        return new BigDecimal(p[axis]).subtract(new BigDecimal(q[axis]));
    }

    private static int estimate(double[] a, double[] b, double[] c) {
        double e = (a[0] - c[0]) * (b[1] - c[1]), f = (a[1] - c[1]) * (b[0] - c[0]);
        return e > f ? 1 : e < f ? -1 : 0;
    }

    private static int corner(Bench m, double[] at) {
        return m.corner(at[0], at[1]);
    }

    private static int close(Bench m, int layer, double[]... ring) {
        m.map.draw();
        for (double[] at : ring) {
            m.map.add(corner(m, at));
        }
        return m.map.close(layer, 0);
    }

    private static int locate(Bench m, int layer, double[] at) {
        return m.locate(layer, at[0], at[1]);
    }

    private static int walk(Bench m, int layer, double[] from, double[] to) {
        return m.map.walk(layer, corner(m, from), corner(m, to), 0);
    }

    private void due(String call, long got, long want) {
        Bench.due(call + what, got, want);
    }

    // ---- what is due of them

    private void sides() {
        Bench m = new Bench();
        int p = corner(m, a), q = corner(m, b), r = corner(m, c);
        int[][] turns = {{p, q, r}, {q, r, p}, {r, p, q}, {q, p, r}, {p, r, q}, {r, q, p}};
        for (int i = 0; i < 6; i++) {
            due("4 order " + i, m.map.side(turns[i][0], turns[i][1], turns[i][2]), i < 3 ? side : -side);
        }
    }

    private void segments() {
        Bench m = new Bench();
        int p = corner(m, a), q = corner(m, b), r = corner(m, c), up = corner(m, left), down = corner(m, right);
        int toLeft = side == 0 ? 2 : side > 0 ? 0 : 1, toRight = side == 0 ? 2 : side > 0 ? 1 : 0;
        int[][] ends = {{p, q, r}, {q, p, r}};
        for (int[] e : ends) {
            due("6 c to the left", m.map.cross(e[0], e[1], e[2], up), toLeft);
            due("6 the left to c", m.map.cross(e[0], e[1], up, e[2]), toLeft);
            due("6 c to the left, told first", m.map.cross(e[2], up, e[0], e[1]), toLeft);
            due("6 the left to c, told first", m.map.cross(up, e[2], e[0], e[1]), toLeft);
            due("6 c to the right", m.map.cross(e[0], e[1], e[2], down), toRight);
            due("6 the right to c", m.map.cross(e[0], e[1], down, e[2]), toRight);
            due("6 c to the right, told first", m.map.cross(e[2], down, e[0], e[1]), toRight);
            due("6 the right to c, told first", m.map.cross(down, e[2], e[0], e[1]), toRight);
            due("6 the part and the whole", m.map.cross(e[0], r, e[0], e[1]), side == 0 ? 3 : 2);
            due("6 the whole and the part", m.map.cross(e[0], e[1], r, e[0]), side == 0 ? 3 : 2);
            due("6 part by part", m.map.cross(e[0], r, r, e[1]), 2);
        }
    }

    /** The thin ring a, c, b, and the lands to the left and to the right of a b. */
    private void slivers() {
        Bench m = new Bench();
        due("10 the sliver", close(m, 0, a, c, b), side == 0 ? -203 : 0);
        due("11 the sliver", m.map.where(), side == 0 ? 2 : 0);
        if (side == 0) {
            return;
        }
        double[] first = ahead(ahead(a, b), c);
        double[][] ring = side > 0 ? new double[][] {a, b, c} : new double[][] {a, c, b};
        int from = first == ring[0] ? 0 : first == ring[1] ? 1 : 2;
        for (int i = 0; i < 3; i++) {
            due("12 the sliver, corner " + i, m.map.told(0, 3 + i), corner(m, ring[(from + i) % 3]));
        }
        due("23 the sliver", m.map.hull(0), 3);
        due("24 the sliver", m.map.hullAt(1), m.map.told(0, 4));
        due("25 the sliver", m.map.twice(0), twice(ring));
        for (double[] far : new double[][] {left, right}) {
            due("22 from a", walk(m, 0, a, far), -1);
            due("22 from b", walk(m, 0, b, far), -1);
            due("22 from c", walk(m, 0, c, far), (side < 0) == (far == left) ? 0 : -1);
        }
        due("10 left of it", close(m, 0, a, b, left), side > 0 ? -204 : 1);
        due("10 right of it", close(m, 0, a, b, right), side > 0 ? 1 : -204);
        due("18 with the sliver", m.map.border(0, 1), 1);
        due("16 with the sliver", m.map.join(1, 0), 4);
        Bench n = new Bench();
        due("10 left, first", close(n, 0, a, b, left), 0);
        due("10 the sliver, then", close(n, 0, c, a, b), side > 0 ? -204 : 1);
        due("10 right, first", close(n, 1, a, b, right), side > 0 ? 1 : 2);
        due("10 the sliver, then, to the right", close(n, 1, c, a, b), side > 0 ? 2 : -204);
    }

    private static double[] ahead(double[] p, double[] q) {
        return p[0] < q[0] || (p[0] == q[0] && p[1] < q[1]) ? p : q;
    }

    private static long twice(double[]... ring) {
        BigDecimal sum = BigDecimal.ZERO;
        for (int i = 1; i + 1 < ring.length; i++) {
            double[] o = ring[0], p = ring[i], q = ring[i + 1];
            sum = sum.add(by(p, o, 0).multiply(by(q, o, 1)).subtract(by(p, o, 1).multiply(by(q, o, 0))));
        }
        return sum.toBigInteger().longValueExact();
    }

    private void places() {
        Bench m = new Bench();
        close(m, 0, a, b, left);
        close(m, 0, a, b, right);
        close(m, 1, a, b, left);
        close(m, 2, a, b, right);
        due("20 of both", locate(m, 0, c), side >= 0 ? 0 : 1);
        due("20 left", locate(m, 1, c), side >= 0 ? 2 : -1);
        due("21 left", m.map.edge(), side == 0 ? edgeAB(m, 2) : -1);
        due("20 right", locate(m, 2, c), side <= 0 ? 3 : -1);
        due("21 right", m.map.edge(), side == 0 ? edgeAB(m, 3) : -1);
        double[] top = {c[0], 0x1p27};
        double[] foot = {c[0], -0x1p27};
        boolean leftIsUp = side(a, b, top) > 0;
        due("22 down to c, left", walk(m, 1, top, c), leftIsUp || side > 0 ? 2 : -1);
        due("22 up to c, left", walk(m, 1, foot, c), !leftIsUp || side > 0 ? 2 : -1);
        due("22 down to c, right", walk(m, 2, top, c), !leftIsUp || side < 0 ? 3 : -1);
        due("22 up to c, right", walk(m, 2, foot, c), leftIsUp || side < 0 ? 3 : -1);
    }

    private int edgeAB(Bench m, int p) {
        for (int i = 0; i < 3; i++) {
            int here = m.map.told(p, 3 + i), next = m.map.told(p, 3 + (i + 1) % 3);
            if (here != corner(m, left) && here != corner(m, right) && next != corner(m, left)
                    && next != corner(m, right)) {
                return i;
            }
        }
        return -1;
    }

    private void ways() {
        Bench m = new Bench();
        close(m, 0, a, b, left);
        close(m, 1, a, b, right);
        for (double[] end : new double[][] {a, b}) {
            due("22 to c, left", walk(m, 0, end, c), side > 0 ? 0 : -1);
            due("22 from c, left", walk(m, 0, c, end), side > 0 ? 0 : -1);
            due("22 to c, right", walk(m, 1, end, c), side < 0 ? 1 : -1);
            due("22 from c, right", walk(m, 1, c, end), side < 0 ? 1 : -1);
        }
        Bench n = new Bench();
        close(n, 0, a, c, left);
        close(n, 1, c, b, left);
        close(n, 2, a, c, right);
        close(n, 3, c, b, right);
        for (int layer = 0; layer < 4; layer++) {
            int through = layer < 2 == side < 0 && side != 0 ? layer : -1;
            due("22 a to b, layer " + layer, walk(n, layer, a, b), through);
            due("22 b to a, layer " + layer, walk(n, layer, b, a), through);
        }
    }

    /** From a point on the very line, to a fourth corner that is nearly in line. */
    private void waysFromTheLine() {
        if (side != 0) {
            return;
        }
        Bench m = new Bench();
        close(m, 0, a, b, left);
        close(m, 1, b, a, right);
        for (int step = -1; step <= 1; step++) {
            double[] d = off(onLine(), step);
            int of = side(a, b, d);
            due("22 from the line, left, " + of, walk(m, 0, c, d), of > 0 ? 0 : -1);
            due("22 to the line, left, " + of, walk(m, 0, d, c), of > 0 ? 0 : -1);
            due("22 from the line, right, " + of, walk(m, 1, c, d), of < 0 ? 1 : -1);
            due("22 to the line, right, " + of, walk(m, 1, d, c), of < 0 ? 1 : -1);
        }
    }

    /** The ring a, c, b with the far corner: it may be cut from a to b if c is on the other side. */
    private void cuts() {
        for (int way = 1; way >= -1; way -= 2) {
            double[] far = way > 0 ? left : right;
            Bench m = new Bench();
            due("10 with c", close(m, 0, a, c, b, far), 0);
            due("10 without c", close(m, 1, a, b, far), 1);
            due("26 with c", m.map.compare(0, 1), -way * side);
            due("23 with c", m.map.hull(0), way * side < 0 ? 4 : 3);
            int i = placeOf(m, a), j = placeOf(m, b);
            due("15 from a to b", m.map.split(0, Math.min(i, j), Math.max(i, j), 0), way * side < 0 ? 2 : -205);
            due("15 from a to b: how many", m.map.told(0, 2), way * side < 0 ? 3 : 4);
            if (way * side < 0) {
                due("26 the parts", m.map.compare(0, 1), placeOf(m, far) >= 0 ? 0 : -1);
                due("16 the parts", m.map.join(0, 2), 4);
            }
            int k = placeOf(m, c), l = placeOf(m, far);
            due("15 from c", m.map.split(0, Math.min(k, l), Math.max(k, l), 0), way * side < 0 ? 3 : 2);
        }
    }

    private static int placeOf(Bench m, double[] at) {
        for (int i = 0; i < m.map.told(0, 2); i++) {
            if (m.map.told(0, 3 + i) == corner(m, at)) {
                return i;
            }
        }
        return -1;
    }

    /** A land all round but for the sliver a, c, b: its corner at a bends in by nearly nothing. */
    private void bends() {
        if (side == 0) {
            return;
        }
        double[] near = side > 0 ? right : left, far = side > 0 ? left : right;
        Bench m = new Bench();
        due("10 round the sliver", close(m, 0, a, b, near, new double[] {2 * a[0] - b[0], 2 * a[1] - b[1]}, far, c), 0);
        due("22 into the one side of it", walk(m, 0, a, near), 0);
        due("22 into the other side of it", walk(m, 0, a, far), 0);
        due("22 along it", walk(m, 0, a, b), -1);
        due("22 along it, by the other side", walk(m, 0, a, c), -1);
        due("10 the sliver", close(m, 0, a, b, c), 1);
        due("18 the sliver", m.map.border(0, 1), 2);
    }

    /** Of corners that are nearly as far away the one that is nearest. */
    private void distances() {
        Bench m = new Bench();
        double[] p = {a[0] + b[1], c[1]};
        double[][] some = {{p[0] + a[0], p[1] + b[0]}, {p[0] - a[0], p[1] + b[0]}, {p[0] + b[0], p[1] - a[0]},
            {p[0] - b[0], p[1] - a[0]}};
        int made = 0, best = -1;
        BigDecimal least = null;
        for (double[] at : some) {
            if (corner(m, at) == made) {
                BigDecimal far = by(at, p, 0).pow(2).add(by(at, p, 1).pow(2));
                if (least == null || far.compareTo(least) < 0) {
                    least = far;
                    best = made;
                }
                made++;
            }
        }
        due("7 nearest", m.nearest(p[0], p[1]), m.map.count(0) == 0 ? -1 : best);
    }
}
