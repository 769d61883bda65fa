/**
 * A parcel map office: land in layers, bounded by corners that are pairs of doubles. The face and
 * its promises are those of DOC.md; every side, crossing and area is told exactly.
 */
public final class ParcelMap {
    public static final int NONE = -1, UNKNOWN = -101, OUTSIDE = -102, STATE = -103, FULL = -104, FEW = -201, TWICE = -202, CROSSED = -203, OVER = -204, APART = -205;

    private static final int MOST_CORNERS = 200;
    private static final int MOST_PARCELS = 60;
    private static final int MOST_DRAWN = 20;
    private static final int LEAST_RING = 3;
    private static final int MOST_RING = 12;
    private static final int LAYERS = 4;
    private static final int MOST_QUOTA = 1000;
    private static final int RING_AT = 3;
    private static final int LAYERS_AT = 4;

    /** A ring as it is drawn or joined may be longer than a parcel's, before it is refused. */
    private static final int RING_ROOM = 24;

    /** The slot behind the corners: a point that is asked about and is no corner. */
    private static final int LOOSE = MOST_CORNERS;

    private static final int SOUND = 0;

    /** What two segments have in common. */
    private static final int APART_ALL = 0;
    private static final int INNER_POINT = 1;
    private static final int END_POINT = 2;
    private static final int A_STRETCH = 3;

    /** Where a point lies, if it is on no edge. */
    private static final int WITHIN = -2;
    private static final int AWAY = -3;

    /** All bits but the sign; those of 2^-20 and of 2^28, and what it takes to read a number between. */
    private static final long SIZE_MASK = 0x7fffffffffffffffL;
    private static final long LEAST_BITS = 1003L << 52;
    private static final long MOST_BITS = 1051L << 52;
    private static final int LEAST_EXPONENT = 1003;
    private static final long TWO_52 = 1L << 52;

    /** The unit of a coordinate is 2^-72, the last bit of the least number. */
    private static final int UNIT = 72;

    /** A coordinate has four limbs of 26 bits, so a product has eight columns. */
    private static final int LIMB_BITS = 26;
    private static final long LIMB_MASK = (1L << LIMB_BITS) - 1;
    private static final int LIMBS = 4;
    private static final int COLUMNS = 8;

    private static final long SURE_SHARE = 1L << 50;
    private static final long NEAR_SHARE = 1L << 40;

    private final Points points;
    private final Shapes shapes;
    private final Register register;
    private final Shares shares;
    private final Hull outline;
    private final Ring drawn;
    private final Ring tried;
    private final Ring settled;
    private int where;
    private int sureness;
    private int foundEdge;

    public ParcelMap() {
        Points given = new Points();
        points = given;
        shapes = new Shapes(given);
        register = new Register();
        shares = new Shares();
        outline = new Hull();
        drawn = new Ring();
        tried = new Ring();
        settled = new Ring();
        where = 0;
        sureness = NONE;
        foundEdge = NONE;
    }

    // ---- corners

    public int corner(long x, long y) {
        if (!isNumber(x) || !isNumber(y)) {
            return OUTSIDE;
        }
        points.put(LOOSE, x, y);
        int known = points.sameAsLoose();
        if (known != NONE) {
            return known;
        }
        return points.made < MOST_CORNERS ? points.make(x, y) : FULL;
    }

    public long at(int c, int axis) {
        if (!points.has(c)) {
            return UNKNOWN;
        }
        if (axis != 0 && axis != 1) {
            return OUTSIDE;
        }
        return points.bits[2 * c + axis];
    }

    public int side(int a, int b, int c) {
        if (!points.has(a) || !points.has(b) || !points.has(c)) {
            return UNKNOWN;
        }
        sureness = points.isSure(a, b, c) ? 1 : 0;
        return points.turn(a, b, c);
    }

    public int sure() {
        return sureness;
    }

    public int cross(int a, int b, int c, int d) {
        if (!points.has(a) || !points.has(b) || !points.has(c) || !points.has(d)) {
            return UNKNOWN;
        }
        if (a == b || c == d) {
            return OUTSIDE;
        }
        return points.meeting(a, b, c, d);
    }

    public int nearest(long x, long y) {
        if (!isNumber(x) || !isNumber(y)) {
            return OUTSIDE;
        }
        points.put(LOOSE, x, y);
        return points.nearestToLoose();
    }

    // ---- drawing

    public int draw() {
        int before = drawn.size;
        drawn.empty();
        return before;
    }

    public int add(int c) {
        if (!points.has(c)) {
            return UNKNOWN;
        }
        if (drawn.size >= MOST_DRAWN) {
            return FULL;
        }
        drawn.push(c);
        return drawn.size;
    }

    public int close(int layer, int owner) {
        if (!isLayer(layer)) {
            return OUTSIDE;
        }
        if (!register.hasRoom()) {
            return FULL;
        }
        int fault = faultIn(drawn, layer, NONE);
        if (fault != SOUND) {
            return fault;
        }
        int number = register.made;
        register.keep(number, NONE);
        register.make(layer, owner, settled);
        drawn.empty();
        return number;
    }

    public int where() {
        return where;
    }

    // ---- parcels

    public int told(int p, int what) {
        if (!register.has(p)) {
            return UNKNOWN;
        }
        if (what < 0 || what >= RING_AT + MOST_RING) {
            return OUTSIDE;
        }
        Parcel parcel = register.parcels[p];
        switch (what) {
            case 0:
                return parcel.layer;
            case 1:
                return parcel.owner;
            case 2:
                return parcel.ring.size;
            default:
                return what - RING_AT < parcel.ring.size ? parcel.ring.around(what - RING_AT) : NONE;
        }
    }

    public int give(int p, int owner) {
        if (!register.has(p)) {
            return UNKNOWN;
        }
        register.keep(p, NONE);
        int before = register.parcels[p].owner;
        register.parcels[p].owner = owner;
        return before;
    }

    public int drop(int p) {
        if (!register.has(p)) {
            return UNKNOWN;
        }
        register.keep(p, NONE);
        register.parcels[p].there = false;
        return register.thereNow();
    }

    public int split(int p, int i, int j, int owner) {
        if (!register.has(p)) {
            return UNKNOWN;
        }
        Parcel parcel = register.parcels[p];
        if (i < 0 || i >= j || j >= parcel.ring.size) {
            return OUTSIDE;
        }
        if (!shapes.isCut(parcel.ring, i, j)) {
            return APART;
        }
        if (!register.hasRoom()) {
            return FULL;
        }
        int number = register.made;
        register.keep(p, number);
        tried.empty();
        tried.pushRun(parcel.ring, i, j - i + 1);
        shapes.settle(tried, settled);
        register.make(parcel.layer, owner, settled);
        tried.empty();
        tried.pushRun(parcel.ring, j, parcel.ring.size - j + i + 1);
        shapes.settle(tried, parcel.ring);
        return number;
    }

    public int join(int p, int q) {
        if (!register.has(p) || !register.has(q)) {
            return UNKNOWN;
        }
        if (p == q || register.parcels[p].layer != register.parcels[q].layer) {
            return OUTSIDE;
        }
        Ring mine = register.parcels[p].ring;
        Ring yours = register.parcels[q].ring;
        int myStart = mine.startOfShared(yours);
        int yourStart = yours.startOfShared(mine);
        if (myStart == NONE || yourStart == NONE) {
            return APART;
        }
        int shared = mine.sharedWith(yours);
        tried.empty();
        tried.pushRun(mine, myStart + shared, mine.size - shared + 1);
        tried.pushRun(yours, yourStart + shared + 1, yours.size - shared - 1);
        int fault = shapes.faultOf(tried);
        if (fault != SOUND) {
            where = shapes.place;
            return fault;
        }
        register.keep(p, q);
        shapes.settle(tried, mine);
        register.parcels[q].there = false;
        return mine.size;
    }

    public int move(int p, int i, int c) {
        if (!register.has(p) || !points.has(c)) {
            return UNKNOWN;
        }
        Parcel parcel = register.parcels[p];
        if (i < 0 || i >= parcel.ring.size) {
            return OUTSIDE;
        }
        int before = parcel.ring.around(i);
        tried.copy(parcel.ring);
        tried.corner[i] = c;
        int fault = faultIn(tried, parcel.layer, p);
        if (fault != SOUND) {
            return fault;
        }
        register.keep(p, NONE);
        parcel.ring.copy(settled);
        return before;
    }

    public int border(int p, int q) {
        if (!register.has(p) || !register.has(q)) {
            return UNKNOWN;
        }
        if (p == q) {
            return OUTSIDE;
        }
        return shapes.stretches(register.parcels[p].ring, register.parcels[q].ring);
    }

    public int neighbour(int p, int k) {
        if (!register.has(p)) {
            return UNKNOWN;
        }
        Parcel parcel = register.parcels[p];
        int seen = 0;
        for (int q = 0; q < register.made; q++) {
            if (q != p && register.isOf(q, parcel.layer)
                    && shapes.stretches(parcel.ring, register.parcels[q].ring) > 0) {
                if (seen == k) {
                    return q;
                }
                seen++;
            }
        }
        return NONE;
    }

    // ---- finding

    public int locate(int layer, long x, long y) {
        if (!isLayer(layer) || !isNumber(x) || !isNumber(y)) {
            return OUTSIDE;
        }
        points.put(LOOSE, x, y);
        foundEdge = NONE;
        for (int p = 0; p < register.made; p++) {
            if (register.isOf(p, layer)) {
                int place = shapes.placeOf(LOOSE, register.parcels[p].ring);
                if (place != AWAY) {
                    foundEdge = place == WITHIN ? NONE : place;
                    return p;
                }
            }
        }
        return NONE;
    }

    public int edge() {
        return foundEdge;
    }

    public int walk(int layer, int a, int b, int k) {
        if (!points.has(a) || !points.has(b)) {
            return UNKNOWN;
        }
        if (!isLayer(layer) || a == b) {
            return OUTSIDE;
        }
        int seen = 0;
        for (int p = 0; p < register.made; p++) {
            if (register.isOf(p, layer) && shapes.goesThrough(a, b, register.parcels[p].ring)) {
                if (seen == k) {
                    return p;
                }
                seen++;
            }
        }
        return NONE;
    }

    public int hull(int layer) {
        if (!isLayer(layer)) {
            return OUTSIDE;
        }
        if (register.thereIn(layer) == 0) {
            return STATE;
        }
        outline.gather(register, layer);
        outline.sort(points);
        outline.wrap(points);
        return outline.size;
    }

    public int hullAt(int k) {
        return k >= 0 && k < outline.size ? outline.chain[k] : NONE;
    }

    // ---- areas

    public long twice(int p) {
        if (!register.has(p)) {
            return UNKNOWN;
        }
        points.measure(register.parcels[p].ring, shares.mine);
        return shares.mine.wholePart();
    }

    public int compare(int p, int q) {
        if (!register.has(p) || !register.has(q)) {
            return UNKNOWN;
        }
        points.measure(register.parcels[p].ring, shares.mine);
        points.measure(register.parcels[q].ring, shares.yours);
        return shares.mine.against(shares.yours);
    }

    public int quota(int p, int n) {
        if (!register.has(p)) {
            return UNKNOWN;
        }
        if (n < 0 || n > MOST_QUOTA) {
            return OUTSIDE;
        }
        int layer = register.parcels[p].layer;
        shares.weigh(register, points, layer);
        return shares.shareOf(register, layer, p, n);
    }

    // ---- what is told

    public int undo() {
        if (!register.kept) {
            return STATE;
        }
        register.restore();
        return 1;
    }

    public int count(int what) {
        switch (what) {
            case 0:
                return points.made;
            case 1:
                return register.thereNow();
            case 2:
                return register.made;
            case 3:
                return drawn.size;
            default:
                return isLayer(what - LAYERS_AT) ? register.thereIn(what - LAYERS_AT) : OUTSIDE;
        }
    }

    public long digest() {
        long h = 23;
        for (int p = 0; p < register.made; p++) {
            if (register.has(p)) {
                Parcel parcel = register.parcels[p];
                h = 31 * h + p;
                h = 31 * h + parcel.layer;
                h = 31 * h + parcel.owner;
                h = 31 * h + parcel.ring.size;
                for (int i = 0; i < parcel.ring.size; i++) {
                    h = 31 * h + parcel.ring.around(i);
                }
            }
        }
        return h;
    }

    // ---- what the calls have in common

    private static boolean isNumber(long raw) {
        long size = raw & SIZE_MASK;
        return size == 0 || (size >= LEAST_BITS && size <= MOST_BITS);
    }

    private static boolean isLayer(int layer) {
        return layer >= 0 && layer < LAYERS;
    }

    /** The first fault of a ring in a layer, with WHERE set; if there is none, it stands in settled. */
    private int faultIn(Ring ring, int layer, int itself) {
        int fault = shapes.faultOf(ring);
        if (fault != SOUND) {
            where = shapes.place;
            return fault;
        }
        shapes.settle(ring, settled);
        for (int q = 0; q < register.made; q++) {
            if (q != itself && register.isOf(q, layer)) {
                Ring other = register.parcels[q].ring;
                if (shapes.framesMeet(settled, other)
                        && (shapes.reachesInto(settled, other) || shapes.reachesInto(other, settled)
                                || shapes.haveLikeLand(settled, other))) {
                    where = q;
                    return OVER;
                }
            }
        }
        return SOUND;
    }

    /** Corners round a piece of land, by their numbers. */
    private static final class Ring {
        private final int[] corner = new int[RING_ROOM];
        private int size = 0;

        void empty() {
            size = 0;
        }

        void push(int c) {
            if (size < RING_ROOM) {
                corner[size] = c;
                size++;
            }
        }

        void copy(Ring other) {
            size = other.size;
            for (int i = 0; i < RING_ROOM; i++) {
                corner[i] = other.corner[i];
            }
        }

        void pushRun(Ring other, int from, int many) {
            for (int i = 0; i < many; i++) {
                push(other.around(from + i));
            }
        }

        /** Place i, counted on round the ring in either way. */
        int around(int i) {
            if (size <= 0) {
                return NONE;
            }
            int place = i % size;
            return corner[place < 0 ? place + size : place];
        }

        /** Whether edge i stands the other way round in another ring. */
        private boolean isShared(int i, Ring other) {
            for (int k = 0; k < other.size; k++) {
                if (other.corner[k] == around(i + 1) && other.around(k + 1) == around(i)) {
                    return true;
                }
            }
            return false;
        }

        int sharedWith(Ring other) {
            int many = 0;
            for (int i = 0; i < size; i++) {
                if (isShared(i, other)) {
                    many++;
                }
            }
            return many;
        }

        /** The first one of the shared edges, if they stand all in a row; NONE else. */
        int startOfShared(Ring other) {
            int start = NONE;
            for (int i = 0; i < size; i++) {
                if (isShared(i, other) && !isShared(i - 1, other)) {
                    if (start != NONE) {
                        return NONE;
                    }
                    start = i;
                }
            }
            return start;
        }
    }

    /** A parcel's entry, also of one that is not there yet or is gone. */
    private static final class Parcel {
        private final Ring ring = new Ring();
        private boolean there = false;
        private int layer = 0;
        private int owner = 0;

        void copy(Parcel other) {
            ring.copy(other.ring);
            there = other.there;
            layer = other.layer;
            owner = other.owner;
        }
    }

    /** All parcels, and what the latest change found where it changed something. */
    private static final class Register {
        private final Parcel[] parcels = new Parcel[MOST_PARCELS];
        private final Parcel firstKept = new Parcel();
        private final Parcel secondKept = new Parcel();
        private int first = NONE;
        private int second = NONE;
        private boolean kept = false;
        private int made = 0;

        Register() {
            for (int p = 0; p < MOST_PARCELS; p++) {
                parcels[p] = new Parcel();
            }
        }

        boolean has(int p) {
            return p >= 0 && p < made && parcels[p].there;
        }

        boolean isOf(int p, int layer) {
            return has(p) && parcels[p].layer == layer;
        }

        boolean hasRoom() {
            return made < MOST_PARCELS;
        }

        int thereNow() {
            int many = 0;
            for (int p = 0; p < made; p++) {
                if (parcels[p].there) {
                    many++;
                }
            }
            return many;
        }

        int thereIn(int layer) {
            int many = 0;
            for (int p = 0; p < made; p++) {
                if (isOf(p, layer)) {
                    many++;
                }
            }
            return many;
        }

        void make(int layer, int owner, Ring ring) {
            if (hasRoom()) {
                Parcel parcel = parcels[made];
                parcel.there = true;
                parcel.layer = layer;
                parcel.owner = owner;
                parcel.ring.copy(ring);
                made++;
            }
        }

        /** No change touches more than two entries, so these two are all that undo needs. */
        void keep(int p, int q) {
            first = p;
            second = q;
            kept = true;
            if (isEntry(p)) {
                firstKept.copy(parcels[p]);
            }
            if (isEntry(q)) {
                secondKept.copy(parcels[q]);
            }
        }

        void restore() {
            kept = false;
            if (isEntry(first)) {
                parcels[first].copy(firstKept);
            }
            if (isEntry(second)) {
                parcels[second].copy(secondKept);
            }
        }

        private static boolean isEntry(int p) {
            return p >= 0 && p < MOST_PARCELS;
        }
    }

    /** A whole number of units of 2^-144 in columns of 26 bits; the last column holds the sign. */
    private static final class Wide {
        private final long[] column = new long[COLUMNS];

        void clear() {
            for (int k = 0; k < COLUMNS; k++) {
                column[k] = 0;
            }
        }

        void copy(Wide other) {
            for (int k = 0; k < COLUMNS; k++) {
                column[k] = other.column[k];
            }
        }

        void plus(Wide other, long times) {
            for (int k = 0; k < COLUMNS; k++) {
                column[k] += times * other.column[k];
            }
        }

        /** Columns may grow to 2^62 either way before this; against and wholePart want it done. */
        void carry() {
            for (int k = 0; k < COLUMNS - 1; k++) {
                long up = column[k] >> LIMB_BITS;
                column[k] -= up << LIMB_BITS;
                column[k + 1] += up;
            }
        }

        /** The sign of the columns as they stand, carried or not. */
        int sign() {
            long up = 0;
            boolean any = false;
            for (int k = 0; k < COLUMNS; k++) {
                long sum = column[k] + up;
                any = any || (sum & LIMB_MASK) != 0;
                up = sum >> LIMB_BITS;
            }
            return up < 0 ? -1 : up > 0 || any ? 1 : 0;
        }

        int against(Wide other) {
            for (int k = COLUMNS - 1; k >= 0; k--) {
                if (column[k] != other.column[k]) {
                    return column[k] < other.column[k] ? -1 : 1;
                }
            }
            return 0;
        }

        /** Rounded down: 144 bits behind the point are five columns and 14 bits. */
        long wholePart() {
            return (column[5] >> 14) + (column[6] << 12) + (column[7] << 38);
        }
    }

    /** The corners and the loose point: their bits, their doubles, and their limbs for exact sums. */
    private static final class Points {
        private final long[] bits = new long[2 * (MOST_CORNERS + 1)];
        private final double[] value = new double[2 * (MOST_CORNERS + 1)];
        private final long[] limb = new long[2 * (MOST_CORNERS + 1) * LIMBS];
        private final Wide total = new Wide();
        private int made = 0;

        boolean has(int c) {
            return c >= 0 && c < made;
        }

        int make(long x, long y) {
            put(made, x, y);
            made++;
            return made - 1;
        }

        void put(int slot, long x, long y) {
            putOne(2 * slot, x);
            putOne(2 * slot + 1, y);
        }

        /** The library has no way from bits to a double here, so it is built from its parts. */
        private void putOne(int spot, long raw) {
            long size = raw & SIZE_MASK;
            long sign = raw < 0 ? -1 : 1;
            long digits = size == 0 ? 0 : (size & (TWO_52 - 1)) + TWO_52;
            int shift = size == 0 ? 0 : (int) (size >>> 52) - LEAST_EXPONENT;
            int half = (UNIT - shift) / 2;
            bits[spot] = size == 0 ? 0 : raw;
            value[spot] = (double) (sign * digits) / (double) (1L << half)
                    / (double) (1L << (UNIT - shift - half));
            for (int k = 0; k < LIMBS; k++) {
                limb[spot * LIMBS + k] = sign * limbOf(digits, k * LIMB_BITS - shift);
            }
        }

        private static long limbOf(long digits, int from) {
            if (from >= 53 || from <= -LIMB_BITS) {
                return 0;
            }
            return (from >= 0 ? digits >>> from : digits << -from) & LIMB_MASK;
        }

        int sameAsLoose() {
            for (int c = 0; c < made; c++) {
                if (bits[2 * c] == bits[2 * LOOSE] && bits[2 * c + 1] == bits[2 * LOOSE + 1]) {
                    return c;
                }
            }
            return NONE;
        }

        double x(int slot) {
            return value[2 * slot];
        }

        double y(int slot) {
            return value[2 * slot + 1];
        }

        boolean isAhead(int a, int b) {
            return x(a) < x(b) || (x(a) == x(b) && y(a) < y(b));
        }

        boolean isSure(int a, int b, int c) {
            double e = (x(a) - x(c)) * (y(b) - y(c));
            double f = (y(a) - y(c)) * (x(b) - x(c));
            return isSureOf(e, f);
        }

        private static boolean isSureOf(double e, double f) {
            double size = (e < 0 ? -e : e) + (f < 0 ? -f : f);
            double apart = e < f ? f - e : e - f;
            return apart > size / (double) SURE_SHARE;
        }

        /** The side of c from a to b. */
        int turn(int a, int b, int c) {
            double e = (x(a) - x(c)) * (y(b) - y(c));
            double f = (y(a) - y(c)) * (x(b) - x(c));
            if (isSureOf(e, f)) {
                return e > f ? 1 : -1;
            }
            // A product is 0 only if a factor is, for none is small enough to vanish.
            if (e == 0 && f == 0) {
                return 0;
            }
            return exactTurn(a, b, c);
        }

        private int exactTurn(int a, int b, int c) {
            int xa = 2 * a * LIMBS;
            int xb = 2 * b * LIMBS;
            int xc = 2 * c * LIMBS;
            total.clear();
            for (int i = 0; i < LIMBS; i++) {
                long ax = limb[xa + i] - limb[xc + i];
                long ay = limb[xa + LIMBS + i] - limb[xc + LIMBS + i];
                for (int j = 0; j < LIMBS; j++) {
                    long bx = limb[xb + j] - limb[xc + j];
                    long by = limb[xb + LIMBS + j] - limb[xc + LIMBS + j];
                    total.column[i + j] += ax * by - ay * bx;
                }
            }
            return total.sign();
        }

        /** What the segments a b and c d have in common. */
        int meeting(int a, int b, int c, int d) {
            if (!spansMeet(x(a), x(b), x(c), x(d)) || !spansMeet(y(a), y(b), y(c), y(d))) {
                return APART_ALL;
            }
            int ofC = turn(a, b, c);
            int ofD = turn(a, b, d);
            if (ofC == 0 && ofD == 0) {
                return meetingInLine(a, b, c, d);
            }
            if (ofC * ofD > 0) {
                return APART_ALL;
            }
            int ofA = turn(c, d, a);
            int ofB = turn(c, d, b);
            if (ofA * ofB > 0) {
                return APART_ALL;
            }
            return ofC * ofD < 0 && ofA * ofB < 0 ? INNER_POINT : END_POINT;
        }

        private static boolean spansMeet(double a, double b, double c, double d) {
            double lowOne = a < b ? a : b;
            double highOne = a < b ? b : a;
            double lowTwo = c < d ? c : d;
            double highTwo = c < d ? d : c;
            return lowOne <= highTwo && lowTwo <= highOne;
        }

        private int meetingInLine(int a, int b, int c, int d) {
            int start = isAhead(a, b) ? a : b;
            int end = isAhead(a, b) ? b : a;
            int otherStart = isAhead(c, d) ? c : d;
            int otherEnd = isAhead(c, d) ? d : c;
            int from = isAhead(start, otherStart) ? otherStart : start;
            int to = isAhead(end, otherEnd) ? end : otherEnd;
            if (isAhead(from, to)) {
                return A_STRETCH;
            }
            return isAhead(to, from) ? APART_ALL : END_POINT;
        }

        /** Whether point v lies on the segment a b, its ends included. */
        boolean isOn(int v, int a, int b) {
            return spansMeet(x(v), x(v), x(a), x(b)) && spansMeet(y(v), y(v), y(a), y(b))
                    && turn(a, b, v) == 0;
        }

        int nearestToLoose() {
            int best = NONE;
            double least = 0;
            for (int c = 0; c < made; c++) {
                double dx = x(c) - x(LOOSE);
                double dy = y(c) - y(LOOSE);
                double far = dx * dx + dy * dy;
                // The estimate errs by far less than this share, so what it leaves out is farther.
                boolean farther = best != NONE && far - least > least / (double) NEAR_SHARE;
                if (best == NONE || (!farther && isNearer(c, best))) {
                    best = c;
                    least = far;
                }
            }
            return best;
        }

        private boolean isNearer(int c, int d) {
            total.clear();
            for (int axis = 0; axis < 2; axis++) {
                int atC = (2 * c + axis) * LIMBS;
                int atD = (2 * d + axis) * LIMBS;
                int atLoose = (2 * LOOSE + axis) * LIMBS;
                for (int i = 0; i < LIMBS; i++) {
                    long ofC = limb[atC + i] - limb[atLoose + i];
                    long ofD = limb[atD + i] - limb[atLoose + i];
                    for (int j = 0; j < LIMBS; j++) {
                        total.column[i + j] += ofC * (limb[atC + j] - limb[atLoose + j])
                                - ofD * (limb[atD + j] - limb[atLoose + j]);
                    }
                }
            }
            return total.sign() < 0;
        }

        /** Twice the area of a ring that turns left. */
        void measure(Ring ring, Wide area) {
            area.clear();
            for (int k = 0; k < ring.size; k++) {
                int here = 2 * ring.around(k) * LIMBS;
                int next = 2 * ring.around(k + 1) * LIMBS;
                for (int i = 0; i < LIMBS; i++) {
                    for (int j = 0; j < LIMBS; j++) {
                        area.column[i + j] += limb[here + i] * limb[next + LIMBS + j]
                                - limb[next + i] * limb[here + LIMBS + j];
                    }
                }
            }
            area.carry();
        }
    }

    /** What rings are like, and how they lie to points, segments and one another. */
    private static final class Shapes {
        private final Points points;
        private int place = 0;

        Shapes(Points points) {
            this.points = points;
        }

        /** The first fault that a ring has by itself, with its place. */
        int faultOf(Ring ring) {
            if (ring.size < LEAST_RING || ring.size > MOST_RING) {
                place = ring.size;
                return FEW;
            }
            return findsTwins(ring) ? TWICE : findsCrossing(ring) ? CROSSED : SOUND;
        }

        private boolean findsTwins(Ring ring) {
            for (int i = 0; i < ring.size; i++) {
                for (int j = i + 1; j < ring.size; j++) {
                    if (ring.corner[i] == ring.corner[j]) {
                        place = j;
                        return true;
                    }
                }
            }
            return false;
        }

        private boolean findsCrossing(Ring ring) {
            for (int i = 0; i < ring.size; i++) {
                for (int j = i + 1; j < ring.size; j++) {
                    boolean follow = j == i + 1 || (i == 0 && j == ring.size - 1);
                    int met = points.meeting(ring.around(i), ring.around(i + 1),
                            ring.around(j), ring.around(j + 1));
                    if (met != (follow ? END_POINT : APART_ALL)) {
                        place = 100 * i + j;
                        return true;
                    }
                }
            }
            return false;
        }

        private int common(Ring p, int i, Ring q, int j) {
            return points.meeting(p.around(i), p.around(i + 1), q.around(j), q.around(j + 1));
        }

        /** A sound ring, turned left and begun at the corner ahead of all others. */
        void settle(Ring ring, Ring into) {
            int start = 0;
            for (int i = 1; i < ring.size; i++) {
                if (points.isAhead(ring.around(i), ring.around(start))) {
                    start = i;
                }
            }
            // At that corner a sound ring never goes straight on, so its turn is the ring's.
            int turn = points.turn(ring.around(start - 1), ring.around(start), ring.around(start + 1));
            int step = turn < 0 ? -1 : 1;
            into.empty();
            for (int i = 0; i < ring.size; i++) {
                into.push(ring.around(start + step * i));
            }
        }

        /** The least edge that a point lies on; or WITHIN, AWAY. */
        int placeOf(int v, Ring ring) {
            boolean inside = false;
            for (int i = 0; i < ring.size; i++) {
                int a = ring.around(i);
                int b = ring.around(i + 1);
                if (points.isOn(v, a, b)) {
                    return i;
                }
                boolean up = points.y(a) <= points.y(v) && points.y(v) < points.y(b);
                boolean down = points.y(b) <= points.y(v) && points.y(v) < points.y(a);
                if ((up && points.turn(a, b, v) > 0) || (down && points.turn(a, b, v) < 0)) {
                    inside = !inside;
                }
            }
            return inside ? WITHIN : AWAY;
        }

        /** Whether one who leaves corner i towards a point comes at once to the inside. */
        private boolean opensTo(Ring ring, int i, int to) {
            int before = ring.around(i - 1);
            int here = ring.around(i);
            int after = ring.around(i + 1);
            boolean leftOfBefore = points.turn(before, here, to) > 0;
            boolean leftOfAfter = points.turn(here, after, to) > 0;
            return points.turn(before, here, after) > 0
                    ? leftOfBefore && leftOfAfter
                    : leftOfBefore || leftOfAfter;
        }

        /** The same for one who leaves any point, whose place in the ring is known. */
        private boolean startsInto(Ring ring, int spot, int from, int to) {
            if (spot == WITHIN || spot == AWAY) {
                return spot == WITHIN;
            }
            int a = ring.around(spot);
            int b = ring.around(spot + 1);
            if (from == a || from == b) {
                return opensTo(ring, from == a ? spot : spot + 1, to);
            }
            return points.turn(a, b, to) > 0;
        }

        /** Whether a segment goes in or out between its ends across an edge, or goes in at a corner. */
        private boolean cutsInto(int a, int b, Ring ring) {
            for (int i = 0; i < ring.size; i++) {
                int here = ring.around(i);
                if (points.meeting(a, b, here, ring.around(i + 1)) == INNER_POINT) {
                    return true;
                }
                if (here != a && here != b && points.isOn(here, a, b) && opensTo(ring, i, b)) {
                    return true;
                }
            }
            return false;
        }

        /** A segment that comes to the inside nowhere behind its start is inside from there on, or not at all. */
        boolean goesThrough(int a, int b, Ring ring) {
            return cutsInto(a, b, ring) || startsInto(ring, placeOf(a, ring), a, b);
        }

        /** Whether an edge of p goes through the inside of q. */
        boolean reachesInto(Ring p, Ring q) {
            for (int i = 0; i < p.size; i++) {
                int here = p.around(i);
                int next = p.around(i + 1);
                if (cutsInto(here, next, q) || startsInto(q, placeOf(here, q), here, next)) {
                    return true;
                }
            }
            return false;
        }

        /**
         * Whether two settled rings of which neither reaches into the other are round the same land:
         * then, and only then, do their edges 0 lead away from the same corner, and the same way.
         */
        boolean haveLikeLand(Ring p, Ring q) {
            return common(p, 0, q, 0) == A_STRETCH;
        }

        int stretches(Ring p, Ring q) {
            int many = 0;
            for (int i = 0; i < p.size; i++) {
                for (int j = 0; j < q.size; j++) {
                    if (common(p, i, q, j) == A_STRETCH) {
                        many++;
                    }
                }
            }
            return many;
        }

        /** Whether the frames of two rings share more than a border; the insides can't else. */
        boolean framesMeet(Ring p, Ring q) {
            for (int axis = 0; axis < 2; axis++) {
                if (farthest(p, axis, 1) <= -farthest(q, axis, -1)
                        || farthest(q, axis, 1) <= -farthest(p, axis, -1)) {
                    return false;
                }
            }
            return true;
        }

        private double farthest(Ring ring, int axis, int way) {
            double most = way * points.value[2 * ring.corner[0] + axis];
            for (int i = 1; i < ring.size; i++) {
                double next = way * points.value[2 * ring.corner[i] + axis];
                most = next > most ? next : most;
            }
            return most;
        }

        /** Whether all between the corners i and j is inside of the ring. */
        boolean isCut(Ring ring, int i, int j) {
            for (int k = 0; k < ring.size; k++) {
                int a = ring.around(k);
                int b = ring.around(k + 1);
                boolean atEnd = a == ring.corner[i] || a == ring.corner[j]
                        || b == ring.corner[i] || b == ring.corner[j];
                int met = points.meeting(ring.corner[i], ring.corner[j], a, b);
                if (met != (atEnd ? END_POINT : APART_ALL)) {
                    return false;
                }
            }
            return opensTo(ring, i, ring.corner[j]);
        }
    }

    /** The areas of a layer's parcels against the whole, and what is left of them. */
    private static final class Shares {
        private final Wide[] rest = new Wide[MOST_PARCELS];
        private final Wide whole = new Wide();
        private final Wide mine = new Wide();
        private final Wide yours = new Wide();

        Shares() {
            for (int p = 0; p < MOST_PARCELS; p++) {
                rest[p] = new Wide();
            }
        }

        void weigh(Register register, Points points, int layer) {
            whole.clear();
            for (int q = 0; q < register.made; q++) {
                if (register.isOf(q, layer)) {
                    points.measure(register.parcels[q].ring, rest[q]);
                    whole.plus(rest[q], 1);
                }
            }
            whole.carry();
        }

        int shareOf(Register register, int layer, int p, int n) {
            int left = n;
            int share = 0;
            for (int q = 0; q < register.made; q++) {
                if (register.isOf(q, layer)) {
                    int cut = cutShare(rest[q], n);
                    left -= cut;
                    share = q == p ? cut : share;
                }
            }
            int before = 0;
            for (int q = 0; q < register.made; q++) {
                if (q != p && register.isOf(q, layer)) {
                    int order = rest[q].against(rest[p]);
                    before += order > 0 || (order == 0 && q < p) ? 1 : 0;
                }
            }
            return before < left ? share + 1 : share;
        }

        /** n times an area by the whole, cut; the area becomes the rest. */
        private int cutShare(Wide area, int n) {
            mine.copy(area);
            area.clear();
            area.plus(mine, n);
            area.carry();
            int cut = 0;
            for (int bit = 512; bit > 0; bit /= 2) {
                mine.copy(area);
                mine.plus(whole, -bit);
                mine.carry();
                if (mine.sign() >= 0) {
                    area.copy(mine);
                    cut += bit;
                }
            }
            return cut;
        }
    }

    /** The latest hull, and the corners of a layer from which it is made. */
    private static final class Hull {
        private final int[] sorted = new int[MOST_CORNERS];
        private final boolean[] taken = new boolean[MOST_CORNERS];
        private final int[] chain = new int[MOST_CORNERS + 1];
        private int many = 0;
        private int size = 0;

        void gather(Register register, int layer) {
            for (int c = 0; c < MOST_CORNERS; c++) {
                taken[c] = false;
            }
            many = 0;
            for (int p = 0; p < register.made; p++) {
                if (register.isOf(p, layer)) {
                    take(register.parcels[p].ring);
                }
            }
        }

        private void take(Ring ring) {
            for (int i = 0; i < ring.size; i++) {
                int c = ring.corner[i];
                if (c >= 0 && c < MOST_CORNERS && !taken[c]) {
                    taken[c] = true;
                    sorted[many] = c;
                    many++;
                }
            }
        }

        void sort(Points points) {
            for (int i = 1; i < many; i++) {
                int c = sorted[i];
                int k = i;
                while (k > 0 && points.isAhead(c, sorted[k - 1])) {
                    sorted[k] = sorted[k - 1];
                    k--;
                }
                sorted[k] = c;
            }
        }

        /** Along the lower side and back along the upper one, past all that do not turn left. */
        void wrap(Points points) {
            size = 0;
            for (int i = 0; i < many; i++) {
                append(points, sorted[i], 1);
            }
            int turnAt = size;
            for (int i = many - 2; i >= 0; i--) {
                append(points, sorted[i], turnAt);
            }
            // The way back ends at the corner where it began.
            size--;
        }

        private void append(Points points, int c, int fixed) {
            while (size > fixed && points.turn(chain[size - 2], chain[size - 1], c) <= 0) {
                size--;
            }
            if (size <= MOST_CORNERS) {
                chain[size] = c;
                size++;
            }
        }
    }
}
