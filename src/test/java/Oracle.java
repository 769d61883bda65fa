import java.math.BigInteger;
import java.util.ArrayList;
import java.util.Collections;
import java.util.List;
import java.util.TreeMap;
import java.util.TreeSet;

/**
 * The document told again in the slowest way, with fractions of BigIntegers: where ParcelMap looks
 * at sides, this cuts the plane into strips and segments into pieces and looks at their middles.
 */
final class Oracle {
    static final int NONE = -1, UNKNOWN = -101, OUTSIDE = -102, STATE = -103, FULL = -104;
    static final int FEW = -201, TWICE = -202, CROSSED = -203, OVER = -204, APART = -205;

    /** A fraction with a divisor above 0, not shortened. */
    record Frac(BigInteger n, BigInteger d) implements Comparable<Frac> {
        static Frac of(BigInteger n, BigInteger d) {
            return d.signum() < 0 ? new Frac(n.negate(), d.negate()) : new Frac(n, d);
        }

        static Frac of(BigInteger n) {
            return new Frac(n, BigInteger.ONE);
        }

        Frac plus(Frac o) {
            return new Frac(n.multiply(o.d).add(o.n.multiply(d)), d.multiply(o.d));
        }

        Frac minus(Frac o) {
            return new Frac(n.multiply(o.d).subtract(o.n.multiply(d)), d.multiply(o.d));
        }

        Frac times(Frac o) {
            return new Frac(n.multiply(o.n), d.multiply(o.d));
        }

        Frac half() {
            return new Frac(n, d.shiftLeft(1));
        }

        int signum() {
            return n.signum();
        }

        @Override
        public int compareTo(Frac o) {
            return n.multiply(o.d).compareTo(o.n.multiply(d));
        }
    }

    record Pt(Frac x, Frac y) { }

    /** A corner in units of 2^-72. */
    record Corner(long xBits, long yBits, BigInteger x, BigInteger y) {
        Pt point() {
            return new Pt(Frac.of(x), Frac.of(y));
        }
    }

    record Land(int layer, int owner, List<Integer> ring) { }

    final List<Corner> corners = new ArrayList<>();
    TreeMap<Integer, Land> lands = new TreeMap<>();
    private TreeMap<Integer, Land> before = null;
    int made = 0;
    List<Integer> drawn = new ArrayList<>();
    private int where = 0;
    private int sure = NONE;
    private int edge = NONE;
    private List<Integer> hull = new ArrayList<>();

    // ---- numbers

    static boolean number(long bits) {
        double v = Math.abs(Double.longBitsToDouble(bits));
        return v == 0 || (v >= 0x1p-20 && v <= 0x1p28);
    }

    static BigInteger units(long bits) {
        return new java.math.BigDecimal(Double.longBitsToDouble(bits))
                .multiply(new java.math.BigDecimal(BigInteger.ONE.shiftLeft(72))).toBigIntegerExact();
    }

    static Corner point(long x, long y) {
        long xb = x == Long.MIN_VALUE ? 0 : x;
        long yb = y == Long.MIN_VALUE ? 0 : y;
        return new Corner(xb, yb, units(xb), units(yb));
    }

    private boolean has(int c) {
        return c >= 0 && c < corners.size();
    }

    // ---- corners

    int corner(long x, long y) {
        if (!number(x) || !number(y)) {
            return OUTSIDE;
        }
        Corner c = point(x, y);
        int known = corners.indexOf(c);
        if (known >= 0) {
            return known;
        }
        if (corners.size() == 200) {
            return FULL;
        }
        corners.add(c);
        return corners.size() - 1;
    }

    long at(int c, int axis) {
        if (!has(c)) {
            return UNKNOWN;
        }
        return axis == 0 ? corners.get(c).xBits : axis == 1 ? corners.get(c).yBits : OUTSIDE;
    }

    private int sign(int a, int b, int c) {
        Corner p = corners.get(a), q = corners.get(b), r = corners.get(c);
        return p.x.subtract(r.x).multiply(q.y.subtract(r.y))
                .subtract(p.y.subtract(r.y).multiply(q.x.subtract(r.x))).signum();
    }

    int side(int a, int b, int c) {
        if (!has(a) || !has(b) || !has(c)) {
            return UNKNOWN;
        }
        double ax = Double.longBitsToDouble(corners.get(a).xBits);
        double ay = Double.longBitsToDouble(corners.get(a).yBits);
        double bx = Double.longBitsToDouble(corners.get(b).xBits);
        double by = Double.longBitsToDouble(corners.get(b).yBits);
        double cx = Double.longBitsToDouble(corners.get(c).xBits);
        double cy = Double.longBitsToDouble(corners.get(c).yBits);
        double e = (ax - cx) * (by - cy);
        double f = (ay - cy) * (bx - cx);
        sure = Math.abs(e - f) > (Math.abs(e) + Math.abs(f)) * 0x1p-50 ? 1 : 0;
        return sign(a, b, c);
    }

    int sure() {
        return sure;
    }

    int cross(int a, int b, int c, int d) {
        if (!has(a) || !has(b) || !has(c) || !has(d)) {
            return UNKNOWN;
        }
        return a == b || c == d ? OUTSIDE : common(a, b, c, d);
    }

    /** By the place where the lines meet, told as a share of each segment. */
    private int common(int a, int b, int c, int d) {
        Corner p = corners.get(a), q = corners.get(b), r = corners.get(c), s = corners.get(d);
        BigInteger ux = q.x.subtract(p.x), uy = q.y.subtract(p.y);
        BigInteger vx = s.x.subtract(r.x), vy = s.y.subtract(r.y);
        BigInteger wx = r.x.subtract(p.x), wy = r.y.subtract(p.y);
        BigInteger det = ux.multiply(vy).subtract(uy.multiply(vx));
        if (det.signum() != 0) {
            Frac t = Frac.of(wx.multiply(vy).subtract(wy.multiply(vx)), det);
            Frac k = Frac.of(wx.multiply(uy).subtract(wy.multiply(ux)), det);
            Frac zero = Frac.of(BigInteger.ZERO), one = Frac.of(BigInteger.ONE);
            if (t.signum() < 0 || k.signum() < 0 || t.compareTo(one) > 0 || k.compareTo(one) > 0) {
                return 0;
            }
            boolean inner = t.compareTo(zero) > 0 && t.compareTo(one) < 0
                    && k.compareTo(zero) > 0 && k.compareTo(one) < 0;
            return inner ? 1 : 2;
        }
        if (wx.multiply(uy).subtract(wy.multiply(ux)).signum() != 0) {
            return 0;
        }
        BigInteger all = ux.multiply(ux).add(uy.multiply(uy));
        BigInteger one = wx.multiply(ux).add(wy.multiply(uy));
        BigInteger two = one.add(vx.multiply(ux)).add(vy.multiply(uy));
        BigInteger from = one.min(two).max(BigInteger.ZERO);
        BigInteger to = one.max(two).min(all);
        return from.compareTo(to) < 0 ? 3 : from.compareTo(to) == 0 ? 2 : 0;
    }

    int nearest(long x, long y) {
        if (!number(x) || !number(y)) {
            return OUTSIDE;
        }
        Corner p = point(x, y);
        int best = NONE;
        BigInteger least = null;
        for (int c = 0; c < corners.size(); c++) {
            BigInteger dx = corners.get(c).x.subtract(p.x), dy = corners.get(c).y.subtract(p.y);
            BigInteger far = dx.multiply(dx).add(dy.multiply(dy));
            if (least == null || far.compareTo(least) < 0) {
                least = far;
                best = c;
            }
        }
        return best;
    }

    // ---- drawing

    int draw() {
        int n = drawn.size();
        drawn = new ArrayList<>();
        return n;
    }

    int add(int c) {
        if (!has(c)) {
            return UNKNOWN;
        }
        if (drawn.size() == 20) {
            return FULL;
        }
        drawn.add(c);
        return drawn.size();
    }

    int close(int layer, int owner) {
        if (layer < 0 || layer > 3) {
            return OUTSIDE;
        }
        if (made == 60) {
            return FULL;
        }
        int fault = fault(drawn, layer, NONE);
        if (fault != 0) {
            return fault;
        }
        keep();
        lands.put(made, new Land(layer, owner, settled(drawn)));
        drawn = new ArrayList<>();
        return made++;
    }

    int where() {
        return where;
    }

    private void keep() {
        before = new TreeMap<>(lands);
    }

    private int ownFault(List<Integer> ring) {
        int n = ring.size();
        if (n < 3 || n > 12) {
            where = n;
            return FEW;
        }
        for (int i = 0; i < n; i++) {
            for (int j = i + 1; j < n; j++) {
                if (ring.get(i).equals(ring.get(j))) {
                    where = j;
                    return TWICE;
                }
            }
        }
        for (int i = 0; i < n; i++) {
            for (int j = i + 1; j < n; j++) {
                int met = common(ring.get(i), ring.get((i + 1) % n), ring.get(j), ring.get((j + 1) % n));
                boolean follows = (i + 1) % n == j || (j + 1) % n == i;
                if (follows ? met == 3 : met != 0) {
                    where = 100 * i + j;
                    return CROSSED;
                }
            }
        }
        return 0;
    }

    private int fault(List<Integer> ring, int layer, int itself) {
        int fault = ownFault(ring);
        if (fault != 0) {
            return fault;
        }
        for (int q : lands.keySet()) {
            if (q != itself && lands.get(q).layer == layer && over(ring, lands.get(q).ring)) {
                where = q;
                return OVER;
            }
        }
        return 0;
    }

    private boolean ahead(int a, int b) {
        int x = corners.get(a).x.compareTo(corners.get(b).x);
        return x < 0 || (x == 0 && corners.get(a).y.compareTo(corners.get(b).y) < 0);
    }

    private List<Integer> settled(List<Integer> ring) {
        List<Integer> r = new ArrayList<>(ring);
        if (area(r).signum() < 0) {
            Collections.reverse(r);
        }
        int start = 0;
        for (int i = 1; i < r.size(); i++) {
            if (ahead(r.get(i), r.get(start))) {
                start = i;
            }
        }
        Collections.rotate(r, -start);
        return r;
    }

    /** Twice the area in units of 2^-144, below 0 if the ring turns right. */
    private BigInteger area(List<Integer> ring) {
        BigInteger sum = BigInteger.ZERO;
        for (int i = 0; i < ring.size(); i++) {
            Corner p = corners.get(ring.get(i)), q = corners.get(ring.get((i + 1) % ring.size()));
            sum = sum.add(p.x.multiply(q.y)).subtract(q.x.multiply(p.y));
        }
        return sum;
    }

    // ---- how things lie

    /** Strips between all corners and crossings: in each, both rings are rows of spans. */
    private boolean over(List<Integer> p, List<Integer> q) {
        TreeSet<Frac> cuts = new TreeSet<>();
        for (int c : p) {
            cuts.add(Frac.of(corners.get(c).x));
        }
        for (int c : q) {
            cuts.add(Frac.of(corners.get(c).x));
        }
        for (int i = 0; i < p.size(); i++) {
            for (int j = 0; j < q.size(); j++) {
                int a = p.get(i), b = p.get((i + 1) % p.size()), c = q.get(j), d = q.get((j + 1) % q.size());
                if (common(a, b, c, d) == 1) {
                    cuts.add(along(a, b, shareOfCrossing(a, b, c, d)).x);
                }
            }
        }
        List<Frac> xs = new ArrayList<>(cuts);
        for (int i = 0; i + 1 < xs.size(); i++) {
            Frac middle = xs.get(i).plus(xs.get(i + 1)).half();
            if (spansOver(heights(p, middle), heights(q, middle))) {
                return true;
            }
        }
        return false;
    }

    private static boolean spansOver(List<Frac> one, List<Frac> two) {
        for (int i = 0; i + 1 < one.size(); i += 2) {
            for (int j = 0; j + 1 < two.size(); j += 2) {
                if (one.get(i).compareTo(two.get(j + 1)) < 0 && two.get(j).compareTo(one.get(i + 1)) < 0) {
                    return true;
                }
            }
        }
        return false;
    }

    /** Where a line upright at x, through no corner, meets the ring. */
    private List<Frac> heights(List<Integer> ring, Frac x) {
        List<Frac> found = new ArrayList<>();
        for (int i = 0; i < ring.size(); i++) {
            Corner a = corners.get(ring.get(i)), b = corners.get(ring.get((i + 1) % ring.size()));
            Frac ax = Frac.of(a.x), bx = Frac.of(b.x);
            if ((ax.compareTo(x) < 0) != (bx.compareTo(x) < 0)) {
                Frac slope = Frac.of(b.y.subtract(a.y), b.x.subtract(a.x));
                found.add(Frac.of(a.y).plus(slope.times(x.minus(ax))));
            }
        }
        Collections.sort(found);
        return found;
    }

    private Frac shareOfCrossing(int a, int b, int c, int d) {
        Corner p = corners.get(a), q = corners.get(b), r = corners.get(c), s = corners.get(d);
        BigInteger ux = q.x.subtract(p.x), uy = q.y.subtract(p.y);
        BigInteger vx = s.x.subtract(r.x), vy = s.y.subtract(r.y);
        BigInteger wx = r.x.subtract(p.x), wy = r.y.subtract(p.y);
        return Frac.of(wx.multiply(vy).subtract(wy.multiply(vx)), ux.multiply(vy).subtract(uy.multiply(vx)));
    }

    private Pt along(int a, int b, Frac share) {
        Corner p = corners.get(a), q = corners.get(b);
        return new Pt(Frac.of(p.x).plus(Frac.of(q.x.subtract(p.x)).times(share)),
                Frac.of(p.y).plus(Frac.of(q.y.subtract(p.y)).times(share)));
    }

    private static int sign(Pt a, Pt b, Pt c) {
        return a.x.minus(c.x).times(b.y.minus(c.y)).minus(a.y.minus(c.y).times(b.x.minus(c.x))).signum();
    }

    private int edgeUnder(Pt v, List<Integer> ring) {
        for (int i = 0; i < ring.size(); i++) {
            Pt a = corners.get(ring.get(i)).point(), b = corners.get(ring.get((i + 1) % ring.size())).point();
            Frac dot = v.x.minus(a.x).times(v.x.minus(b.x)).plus(v.y.minus(a.y).times(v.y.minus(b.y)));
            if (sign(a, b, v) == 0 && dot.signum() <= 0) {
                return i;
            }
        }
        return NONE;
    }

    /** By the turns round the point: each edge that passes over it upright counts half a turn. */
    private boolean inside(Pt v, List<Integer> ring) {
        if (edgeUnder(v, ring) != NONE) {
            return false;
        }
        int turns = 0;
        for (int i = 0; i < ring.size(); i++) {
            Pt a = corners.get(ring.get(i)).point(), b = corners.get(ring.get((i + 1) % ring.size())).point();
            boolean aLow = a.x.compareTo(v.x) <= 0, bLow = b.x.compareTo(v.x) <= 0;
            if (aLow != bLow) {
                int s = sign(a, b, v);
                if (aLow && s > 0) {
                    turns++;
                }
                if (bLow && s < 0) {
                    turns--;
                }
            }
        }
        return turns != 0;
    }

    /** All shares of a b, from 0 to 1, at which it comes to or leaves an edge of the ring. */
    private List<Frac> stops(int a, int b, List<Integer> ring) {
        TreeSet<Frac> found = new TreeSet<>();
        found.add(Frac.of(BigInteger.ZERO));
        found.add(Frac.of(BigInteger.ONE));
        Corner p = corners.get(a), q = corners.get(b);
        BigInteger ux = q.x.subtract(p.x), uy = q.y.subtract(p.y);
        BigInteger all = ux.multiply(ux).add(uy.multiply(uy));
        for (int i = 0; i < ring.size(); i++) {
            int c = ring.get(i), d = ring.get((i + 1) % ring.size());
            int met = common(a, b, c, d);
            if (met == 3) {
                for (int e : new int[] {c, d}) {
                    Corner r = corners.get(e);
                    BigInteger dot = r.x.subtract(p.x).multiply(ux).add(r.y.subtract(p.y).multiply(uy));
                    if (dot.signum() >= 0 && dot.compareTo(all) <= 0) {
                        found.add(Frac.of(dot, all));
                    }
                }
            } else if (met != 0 && (sign(a, b, c) != 0 || sign(a, b, d) != 0)) {
                found.add(shareOfCrossing(a, b, c, d));
            }
        }
        return new ArrayList<>(found);
    }

    private boolean through(int a, int b, List<Integer> ring) {
        List<Frac> stops = stops(a, b, ring);
        for (int i = 0; i + 1 < stops.size(); i++) {
            if (inside(along(a, b, stops.get(i).plus(stops.get(i + 1)).half()), ring)) {
                return true;
            }
        }
        return false;
    }

    private boolean cuts(int a, int b, List<Integer> ring) {
        List<Frac> stops = stops(a, b, ring);
        return stops.size() == 2 && inside(along(a, b, stops.get(0).plus(stops.get(1)).half()), ring);
    }

    // ---- parcels

    int told(int p, int what) {
        Land land = lands.get(p);
        if (land == null) {
            return UNKNOWN;
        }
        if (what < 0 || what > 14) {
            return OUTSIDE;
        }
        if (what < 3) {
            return what == 0 ? land.layer : what == 1 ? land.owner : land.ring.size();
        }
        return what - 3 < land.ring.size() ? land.ring.get(what - 3) : NONE;
    }

    int give(int p, int owner) {
        Land land = lands.get(p);
        if (land == null) {
            return UNKNOWN;
        }
        keep();
        lands.put(p, new Land(land.layer, owner, land.ring));
        return land.owner;
    }

    int drop(int p) {
        if (!lands.containsKey(p)) {
            return UNKNOWN;
        }
        keep();
        lands.remove(p);
        return lands.size();
    }

    int split(int p, int i, int j, int owner) {
        Land land = lands.get(p);
        if (land == null) {
            return UNKNOWN;
        }
        int n = land.ring.size();
        if (i >= j || i < 0 || j < 0 || i >= n || j >= n) {
            return OUTSIDE;
        }
        if (j - i == 1 || (i == 0 && j == n - 1) || !cuts(land.ring.get(i), land.ring.get(j), land.ring)) {
            return APART;
        }
        if (made == 60) {
            return FULL;
        }
        keep();
        List<Integer> rest = new ArrayList<>(land.ring.subList(j, n));
        rest.addAll(land.ring.subList(0, i + 1));
        lands.put(made, new Land(land.layer, owner, settled(land.ring.subList(i, j + 1))));
        lands.put(p, new Land(land.layer, land.owner, settled(rest)));
        return made++;
    }

    int join(int p, int q) {
        Land one = lands.get(p), two = lands.get(q);
        if (one == null || two == null) {
            return UNKNOWN;
        }
        if (p == q || one.layer != two.layer) {
            return OUTSIDE;
        }
        // Each turn of either ring that has all common edges in front tells whether they are in a row.
        for (int s = 0; s < one.ring.size(); s++) {
            for (int t = 0; t < two.ring.size(); t++) {
                List<Integer> a = new ArrayList<>(one.ring), b = new ArrayList<>(two.ring);
                Collections.rotate(a, -s);
                Collections.rotate(b, -t);
                int m = frontRun(a, b);
                if (m > 0 && m == commonEdges(a, b)) {
                    return joined(p, q, a, b, m);
                }
            }
        }
        return APART;
    }

    private static int commonEdges(List<Integer> a, List<Integer> b) {
        int many = 0;
        for (int i = 0; i < a.size(); i++) {
            for (int j = 0; j < b.size(); j++) {
                if (a.get(i).equals(b.get((j + 1) % b.size())) && b.get(j).equals(a.get((i + 1) % a.size()))) {
                    many++;
                }
            }
        }
        return many;
    }

    /** How many edges of a's front stand, backwards, in the front of b that ends where a begins. */
    private static int frontRun(List<Integer> a, List<Integer> b) {
        for (int m = Math.min(a.size(), b.size()) - 1; m > 0; m--) {
            List<Integer> front = new ArrayList<>(b.subList(0, m + 1));
            Collections.reverse(front);
            if (front.equals(a.subList(0, m + 1))) {
                return m;
            }
        }
        return 0;
    }

    private int joined(int p, int q, List<Integer> a, List<Integer> b, int m) {
        List<Integer> ring = new ArrayList<>(a.subList(m, a.size()));
        ring.add(a.get(0));
        ring.addAll(b.subList(m + 1, b.size()));
        int fault = ownFault(ring);
        if (fault != 0) {
            return fault;
        }
        keep();
        Land land = lands.get(p);
        lands.put(p, new Land(land.layer, land.owner, settled(ring)));
        lands.remove(q);
        return ring.size();
    }

    int move(int p, int i, int c) {
        Land land = lands.get(p);
        if (land == null || !has(c)) {
            return UNKNOWN;
        }
        if (i < 0 || i >= land.ring.size()) {
            return OUTSIDE;
        }
        List<Integer> ring = new ArrayList<>(land.ring);
        int was = ring.set(i, c);
        int fault = fault(ring, land.layer, p);
        if (fault != 0) {
            return fault;
        }
        keep();
        lands.put(p, new Land(land.layer, land.owner, settled(ring)));
        return was;
    }

    private int stretches(List<Integer> p, List<Integer> q) {
        int many = 0;
        for (int i = 0; i < p.size(); i++) {
            for (int j = 0; j < q.size(); j++) {
                if (common(p.get(i), p.get((i + 1) % p.size()), q.get(j), q.get((j + 1) % q.size())) == 3) {
                    many++;
                }
            }
        }
        return many;
    }

    int border(int p, int q) {
        if (!lands.containsKey(p) || !lands.containsKey(q)) {
            return UNKNOWN;
        }
        return p == q ? OUTSIDE : stretches(lands.get(p).ring, lands.get(q).ring);
    }

    int neighbour(int p, int k) {
        if (!lands.containsKey(p)) {
            return UNKNOWN;
        }
        List<Integer> found = new ArrayList<>();
        for (int q : lands.keySet()) {
            if (q != p && lands.get(q).layer == lands.get(p).layer
                    && stretches(lands.get(p).ring, lands.get(q).ring) > 0) {
                found.add(q);
            }
        }
        return k >= 0 && k < found.size() ? found.get(k) : NONE;
    }

    // ---- finding

    int locate(int layer, long x, long y) {
        if (layer < 0 || layer > 3 || !number(x) || !number(y)) {
            return OUTSIDE;
        }
        Pt v = point(x, y).point();
        edge = NONE;
        for (int p : lands.keySet()) {
            List<Integer> ring = lands.get(p).ring;
            if (lands.get(p).layer == layer) {
                edge = edgeUnder(v, ring);
                if (edge != NONE || inside(v, ring)) {
                    return p;
                }
            }
        }
        return NONE;
    }

    int edge() {
        return edge;
    }

    int walk(int layer, int a, int b, int k) {
        if (!has(a) || !has(b)) {
            return UNKNOWN;
        }
        if (layer < 0 || layer > 3 || a == b) {
            return OUTSIDE;
        }
        List<Integer> found = new ArrayList<>();
        for (int p : lands.keySet()) {
            if (lands.get(p).layer == layer && through(a, b, lands.get(p).ring)) {
                found.add(p);
            }
        }
        return k >= 0 && k < found.size() ? found.get(k) : NONE;
    }

    /** From the corner ahead of all, always on to the one that has all others to its left. */
    int hull(int layer) {
        if (layer < 0 || layer > 3) {
            return OUTSIDE;
        }
        TreeSet<Integer> all = new TreeSet<>();
        for (Land land : lands.values()) {
            if (land.layer == layer) {
                all.addAll(land.ring);
            }
        }
        if (all.isEmpty()) {
            return STATE;
        }
        int start = all.first();
        for (int c : all) {
            start = ahead(c, start) ? c : start;
        }
        hull = new ArrayList<>();
        int here = start;
        do {
            hull.add(here);
            int next = NONE;
            for (int c : all) {
                if (c != here && (next == NONE || sign(here, next, c) < 0
                        || (sign(here, next, c) == 0 && far(here, c).compareTo(far(here, next)) > 0))) {
                    next = c;
                }
            }
            here = next;
        } while (here != start);
        return hull.size();
    }

    private BigInteger far(int a, int b) {
        BigInteger dx = corners.get(a).x.subtract(corners.get(b).x);
        BigInteger dy = corners.get(a).y.subtract(corners.get(b).y);
        return dx.multiply(dx).add(dy.multiply(dy));
    }

    int hullAt(int k) {
        return k >= 0 && k < hull.size() ? hull.get(k) : NONE;
    }

    // ---- areas

    long twice(int p) {
        return lands.containsKey(p) ? area(lands.get(p).ring).shiftRight(144).longValueExact() : UNKNOWN;
    }

    int compare(int p, int q) {
        if (!lands.containsKey(p) || !lands.containsKey(q)) {
            return UNKNOWN;
        }
        return area(lands.get(p).ring).compareTo(area(lands.get(q).ring));
    }

    int quota(int p, int n) {
        if (!lands.containsKey(p)) {
            return UNKNOWN;
        }
        if (n < 0 || n > 1000) {
            return OUTSIDE;
        }
        BigInteger whole = BigInteger.ZERO;
        List<Integer> row = new ArrayList<>();
        for (int q : lands.keySet()) {
            if (lands.get(q).layer == lands.get(p).layer) {
                row.add(q);
                whole = whole.add(area(lands.get(q).ring));
            }
        }
        TreeMap<Integer, BigInteger> rests = new TreeMap<>();
        TreeMap<Integer, Integer> shares = new TreeMap<>();
        int left = n;
        for (int q : row) {
            BigInteger[] parts = area(lands.get(q).ring).multiply(BigInteger.valueOf(n)).divideAndRemainder(whole);
            shares.put(q, parts[0].intValueExact());
            rests.put(q, parts[1]);
            left -= parts[0].intValueExact();
        }
        row.sort((a, b) -> rests.get(b).compareTo(rests.get(a)));
        for (int i = 0; i < left; i++) {
            shares.merge(row.get(i), 1, Integer::sum);
        }
        return shares.get(p);
    }

    // ---- what is told

    int undo() {
        if (before == null) {
            return STATE;
        }
        lands = before;
        before = null;
        return 1;
    }

    int count(int what) {
        switch (what) {
            case 0: return corners.size();
            case 1: return lands.size();
            case 2: return made;
            case 3: return drawn.size();
            default:
                if (what < 4 || what > 7) {
                    return OUTSIDE;
                }
                int many = 0;
                for (Land land : lands.values()) {
                    many += land.layer == what - 4 ? 1 : 0;
                }
                return many;
        }
    }

    long digest() {
        long h = 23;
        for (int p : lands.keySet()) {
            Land land = lands.get(p);
            h = 31 * h + p;
            h = 31 * h + land.layer;
            h = 31 * h + land.owner;
            h = 31 * h + land.ring.size();
            for (int c : land.ring) {
                h = 31 * h + c;
            }
        }
        return h;
    }
}
