/**
 * Each refusal that a promise lists, and of several the first: the refused call is made on one of two
 * like maps, and all that can be told of both, but WHERE, stays alike.
 */
public final class RefusalsTest {
    private interface Call {
        long on(ParcelMap map);
    }

    private static final int UNKNOWN = -101, OUTSIDE = -102, STATE = -103, FULL = -104;
    private static final int FEW = -201, TWICE = -202, CROSSED = -203, OVER = -204, APART = -205;
    private static final int LEAST = Integer.MIN_VALUE, MOST = Integer.MAX_VALUE;

    /** WHERE of the town, which refusals other than the faults leave. */
    private static final int TOWN_WHERE = 2;
    private static final int TOWN_CORNERS = 16;
    private static final int TOWN_PARCELS = 5;
    private static final int GONE = 3;
    private static final int[] NO_CORNER = {-1, TOWN_CORNERS, 200, LEAST, MOST};
    private static final int[] NO_PARCEL = {-1, GONE, TOWN_PARCELS, 60, LEAST, MOST};
    private static final int[] NO_LAYER = {-1, 4, LEAST, MOST};
    private static final long ONE = Bench.bits(1);
    private static final long[] NO_NUMBER = {Bench.bits(0x1p-20) - 1, Bench.bits(0x1p28) + 1, Bench.bits(-0x1p-20) - 1,
        Bench.bits(-0x1p28) + 1, 1, Long.MIN_VALUE + 1, Long.MAX_VALUE, -1, Bench.bits(Double.NaN),
        Bench.bits(Double.POSITIVE_INFINITY), Bench.bits(Double.NEGATIVE_INFINITY), Bench.bits(Double.MAX_VALUE)};

    public static void main(String[] args) {
        corners();
        cornersFull();
        drawing();
        drawingFull();
        faults();
        told();
        split();
        splitFull();
        join();
        joinFaults();
        move();
        moveFaults();
        borders();
        finding();
        areas();
        whole();
        undone();
        asking();
        Bench.end();
    }

    // ---- the maps

    /** Some of all that a map can hold, with a ring drawn, a place found and a change to be undone. */
    private static Bench town(int... ring) {
        Bench b = new Bench();
        b.box(0, 50, 0, 0, 4, 4);
        b.box(0, 51, 4, 0, 8, 4);
        b.box(1, 52, 0, 0, 4, 4);
        b.close(3, 53, 20, 20, 24, 20, 20, 24);
        b.map.drop(GONE);
        b.box(0, 54, 0, 4, 4, 8);
        b.corner(2, 2);
        b.corner(6, 2);
        b.corner(9, 9);
        b.corner(2, 4);
        b.corner(6, 6);
        b.draw(0, 0, 4, 0);
        b.map.close(0, 0);
        b.map.draw();
        for (int c : ring) {
            b.map.add(c);
        }
        b.map.side(0, 1, 3);
        b.locate(0, 4, 2);
        b.map.hull(0);
        b.map.give(0, 60);
        return b;
    }

    private static Bench fullOfCorners() {
        Bench b = town(0, 1);
        for (int i = 0; i < 200 - TOWN_CORNERS; i++) {
            b.corner(100 + i, 0);
        }
        return b;
    }

    private static Bench fullOfParcels(int... ring) {
        Bench b = town(ring);
        b.map.draw();
        for (int i = 0; i < 60 - TOWN_PARCELS; i++) {
            b.map.add(6);
            b.map.add(7);
            b.map.add(8);
            b.map.close(2, 0);
            b.map.undo();
        }
        for (int c : ring) {
            b.map.add(c);
        }
        b.map.give(0, 61);
        return b;
    }

    /** All that is told of a map but WHERE; the ring that is drawn is told by closing it at the end. */
    private static long[] all(ParcelMap map) {
        long[] told = new long[400];
        int n = 0;
        told[n++] = map.sure();
        told[n++] = map.edge();
        for (int k = 0; k < 12; k++) {
            told[n++] = map.hullAt(k);
        }
        for (int what = 0; what < 8; what++) {
            told[n++] = map.count(what);
        }
        for (int c = 0; c < TOWN_CORNERS + 1; c++) {
            told[n++] = map.at(c, 0);
            told[n++] = map.at(c, 1);
        }
        told[n++] = map.digest();
        told[n++] = map.undo();
        told[n++] = map.digest();
        told[n++] = map.undo();
        told[n++] = map.close(2, 99);
        told[n++] = map.digest();
        told[n++] = map.add(13);
        told[n++] = map.close(3, 99);
        told[n++] = map.digest();
        told[n++] = map.draw();
        return told;
    }

    private static void dueAlike(String what, Bench got, Bench want) {
        long[] one = all(got.map);
        long[] two = all(want.map);
        for (int i = 0; i < one.length; i++) {
            Bench.due(what + ": what is told after it, row " + i, one[i], two[i]);
        }
    }

    private static void refused(String what, int want, Call call) {
        refused(what, town(0, 1), town(0, 1), want, TOWN_WHERE, call);
    }

    private static void refused(String what, Bench b, Bench alike, int want, int where, Call call) {
        Bench.due(what, call.on(b.map), want);
        Bench.due(what + ": where", b.map.where(), where);
        dueAlike(what, b, alike);
    }

    // ---- corners

    private static void corners() {
        for (long v : NO_NUMBER) {
            refused("2 x of bits " + v, OUTSIDE, map -> map.corner(v, ONE));
            refused("2 y of bits " + v, OUTSIDE, map -> map.corner(ONE, v));
            refused("7 x of bits " + v, OUTSIDE, map -> map.nearest(v, ONE));
            refused("7 y of bits " + v, OUTSIDE, map -> map.nearest(ONE, v));
        }
        for (int c : NO_CORNER) {
            refused("3 corner " + c, UNKNOWN, map -> map.at(c, 0));
            refused("3 corner " + c + " ahead of axis 2", UNKNOWN, map -> map.at(c, 2));
            refused("4 a is " + c, UNKNOWN, map -> map.side(c, 0, 1));
            refused("4 b is " + c, UNKNOWN, map -> map.side(0, c, 1));
            refused("4 c is " + c, UNKNOWN, map -> map.side(0, 1, c));
            refused("6 a is " + c, UNKNOWN, map -> map.cross(c, 0, 1, 2));
            refused("6 b is " + c, UNKNOWN, map -> map.cross(0, c, 1, 2));
            refused("6 c is " + c, UNKNOWN, map -> map.cross(0, 1, c, 2));
            refused("6 d is " + c, UNKNOWN, map -> map.cross(0, 1, 2, c));
            refused("6 a and b are " + c, UNKNOWN, map -> map.cross(c, c, 1, 2));
            refused("6 c is " + c + " ahead of a is b", UNKNOWN, map -> map.cross(0, 0, c, 2));
            refused("6 b is " + c + " ahead of c is d", UNKNOWN, map -> map.cross(0, c, 1, 1));
        }
        for (int axis : new int[] {-1, 2, LEAST, MOST}) {
            refused("3 axis " + axis, OUTSIDE, map -> map.at(0, axis));
        }
        refused("6 a is b", OUTSIDE, map -> map.cross(1, 1, 2, 3));
        refused("6 c is d", OUTSIDE, map -> map.cross(2, 3, 1, 1));
        refused("6 both", OUTSIDE, map -> map.cross(2, 2, 1, 1));
    }

    private static void cornersFull() {
        refused("2 the 201st", fullOfCorners(), fullOfCorners(), FULL, TOWN_WHERE, map -> map.corner(ONE, ONE));
        refused("2 outside ahead of full", fullOfCorners(), fullOfCorners(), OUTSIDE, TOWN_WHERE,
                map -> map.corner(ONE, 1));
        refused("3 no corner 200", fullOfCorners(), fullOfCorners(), UNKNOWN, TOWN_WHERE, map -> map.at(200, 0));
        refused("9 no corner 200", fullOfCorners(), fullOfCorners(), UNKNOWN, TOWN_WHERE, map -> map.add(200));
        Bench b = fullOfCorners();
        Bench.due("2 the 200th is there", b.map.at(199, 0), Bench.bits(100 + 199 - TOWN_CORNERS));
        Bench.due("2 one that is there, of a full map", b.corner(8, 4), 5);
    }

    // ---- drawing

    private static final int[] TWENTY = {0, 1, 2, 3, 4, 5, 6, 7, 8, 9, 10, 0, 1, 2, 3, 4, 5, 6, 7, 8};

    private static void drawing() {
        for (int c : NO_CORNER) {
            refused("9 corner " + c, UNKNOWN, map -> map.add(c));
            refused("9 corner " + c + " ahead of full", town(TWENTY), town(TWENTY), UNKNOWN, TOWN_WHERE,
                    map -> map.add(c));
        }
        refused("9 the 21st", town(TWENTY), town(TWENTY), FULL, TOWN_WHERE, map -> map.add(0));
        for (int layer : NO_LAYER) {
            refused("10 layer " + layer + " ahead of few", OUTSIDE, map -> map.close(layer, 0));
            refused("10 layer " + layer, town(6, 7, 8), town(6, 7, 8), OUTSIDE, TOWN_WHERE,
                    map -> map.close(layer, 0));
            refused("10 layer " + layer + " ahead of full", fullOfParcels(6, 7, 8), fullOfParcels(6, 7, 8), OUTSIDE,
                    TOWN_WHERE, map -> map.close(layer, 0));
        }
    }

    private static void drawingFull() {
        int[][] rings = {{6, 7, 8}, {}, {0, 1}, {6, 7, 6}, {0, 2, 1, 3}, {0, 1, 2, 3}};
        String[] what = {"a sound ring", "nothing drawn", "few", "twice", "crossed", "over"};
        for (int i = 0; i < rings.length; i++) {
            refused("10 full ahead of " + what[i], fullOfParcels(rings[i]), fullOfParcels(rings[i]), FULL, TOWN_WHERE,
                    map -> map.close(0, 0));
        }
    }

    private static void fault(String what, int want, int where, int... ring) {
        refused("10 " + what, town(ring), town(ring), want, where, map -> map.close(0, 0));
    }

    private static void faults() {
        fault("no corner", FEW, 0);
        fault("one corner", FEW, 1, 6);
        fault("two corners", FEW, 2, 6, 7);
        fault("two like corners: few ahead of twice", FEW, 2, 6, 6);
        fault("thirteen corners", FEW, 13, 0, 1, 2, 3, 4, 5, 6, 7, 8, 9, 10, 11, 12);
        fault("thirteen corners: few ahead of twice", FEW, 13, 0, 1, 0, 1, 0, 1, 0, 1, 0, 1, 0, 1, 0);
        fault("twenty corners", FEW, 20, TWENTY);
        fault("three corners, two like", TWICE, 2, 6, 7, 6);
        fault("twelve corners, first and last like", TWICE, 11, 0, 1, 2, 3, 4, 5, 6, 7, 8, 9, 10, 0);
        fault("the first one's place least", TWICE, 5, 6, 7, 8, 8, 7, 6);
        fault("then the second's", TWICE, 2, 6, 7, 6, 7, 6);
        fault("twice ahead of crossed and over", TWICE, 4, 0, 2, 1, 3, 0);
        fault("twice ahead of over", TWICE, 4, 0, 1, 2, 3, 3);
        fault("crossed ahead of over", CROSSED, 2, 0, 2, 1, 3);
        fault("in line", CROSSED, 2, 0, 11, 2);
        fault("over the least", OVER, 0, 3, 0, 4, 5);
        fault("over the second", OVER, 1, 1, 4, 5);
        fault("over the one behind that one that is gone", OVER, 4, 9, 14, 10);
    }

    // ---- parcels

    private static void told() {
        for (int p : NO_PARCEL) {
            refused("12 parcel " + p, UNKNOWN, map -> map.told(p, 0));
            refused("12 parcel " + p + " ahead of what", UNKNOWN, map -> map.told(p, 15));
            refused("13 parcel " + p, UNKNOWN, map -> map.give(p, 5));
            refused("14 parcel " + p, UNKNOWN, map -> map.drop(p));
        }
        for (int what : new int[] {-1, 15, LEAST, MOST}) {
            refused("12 what is " + what, OUTSIDE, map -> map.told(0, what));
        }
    }

    private static void split() {
        for (int p : NO_PARCEL) {
            refused("15 parcel " + p, UNKNOWN, map -> map.split(p, 0, 2, 5));
            refused("15 parcel " + p + " ahead of outside", UNKNOWN, map -> map.split(p, 2, 0, 5));
            refused("15 parcel " + p + " ahead of apart", UNKNOWN, map -> map.split(p, 0, 1, 5));
        }
        int[][] places = {{0, 0}, {3, 3}, {2, 0}, {1, 0}, {-1, 1}, {-2, -1}, {LEAST, 2}, {2, 4}, {3, 4}, {4, 5},
            {0, MOST}, {0, 4}, {LEAST, MOST}, {MOST, LEAST}, {-1, 3}, {0, -2}};
        for (int[] at : places) {
            refused("15 places " + at[0] + " and " + at[1], OUTSIDE, map -> map.split(0, at[0], at[1], 5));
        }
        int[][] follow = {{0, 1}, {1, 2}, {2, 3}, {0, 3}};
        for (int[] at : follow) {
            refused("15 " + at[0] + " and " + at[1] + " follow", APART, map -> map.split(0, at[0], at[1], 5));
        }
    }

    private static void splitFull() {
        refused("15 full", fullOfParcels(), fullOfParcels(), FULL, TOWN_WHERE, map -> map.split(0, 0, 2, 5));
        refused("15 apart ahead of full", fullOfParcels(), fullOfParcels(), APART, TOWN_WHERE,
                map -> map.split(0, 0, 3, 5));
        refused("15 outside ahead of full", fullOfParcels(), fullOfParcels(), OUTSIDE, TOWN_WHERE,
                map -> map.split(0, 0, 4, 5));
        refused("15 unknown ahead of full", fullOfParcels(), fullOfParcels(), UNKNOWN, TOWN_WHERE,
                map -> map.split(59, 0, 2, 5));
    }

    private static void join() {
        for (int p : NO_PARCEL) {
            refused("16 p is " + p, UNKNOWN, map -> map.join(p, 0));
            refused("16 q is " + p, UNKNOWN, map -> map.join(0, p));
            refused("16 both are " + p, UNKNOWN, map -> map.join(p, p));
        }
        refused("16 p is q", OUTSIDE, map -> map.join(0, 0));
        refused("16 another layer ahead of apart", OUTSIDE, map -> map.join(0, 2));
        refused("16 another layer, turned", OUTSIDE, map -> map.join(2, 1));
        refused("16 only a corner in common", APART, map -> map.join(1, 4));
        refused("16 only a corner in common, turned", APART, map -> map.join(4, 1));
    }

    private static final double[] TEN = {0, 0, 1, 0, 2, 0, 3, 0, 4, 0, 4, 4, 3, 4, 2, 4, 1, 4, 0, 4};

    /** Two parcels that have an edge in common, and a change to be undone. */
    private static Bench two(double[] one, double[] other) {
        Bench b = new Bench();
        b.close(0, 50, one);
        b.close(0, 51, other);
        b.map.give(0, 52);
        return b;
    }

    private static void joinFault(String what, int want, int where, double[] one, double[] other) {
        refused("16 " + what, two(one, other), two(one, other), want, where, map -> map.join(0, 1));
    }

    private static void joinFaults() {
        joinFault("thirteen corners", FEW, 13, TEN, new double[] {4, 0, 6, 0, 7, 2, 6, 4, 4, 4});
        Bench b = two(TEN, new double[] {4, 0, 6, 0, 6, 4, 4, 4});
        Bench.due("16 twelve corners", b.map.join(0, 1), 12);
        joinFault("few ahead of twice", FEW, 14, TEN, new double[] {4, 0, 6, 0, 6, 6, 0, 4, 5, 5, 4, 4});
        joinFault("few ahead of crossed", FEW, 14, TEN, new double[] {4, 0, 6, 0, 6, 6, 0.5, 4, 5, 5, 4, 4});
        double[] box = {0, 0, 4, 0, 4, 4, 0, 4};
        // Behind the common edge: (4, 4), (0, 4), (0, 0), (4, 0), (8, 0), (8, 8), (-2, 8), (0, 4), ..
        joinFault("twice ahead of crossed", TWICE, 7, box,
                new double[] {4, 0, 8, 0, 8, 8, -2, 8, 0, 4, 1, 6, 2, 4, 3, 6, 4, 4});
        joinFault("crossed", CROSSED, 8, box,
                new double[] {4, 0, 8, 0, 8, 8, -2, 8, 0, 5, 1, 6, 2, 4, 3, 6, 4, 4});
    }

    private static void move() {
        for (int p : NO_PARCEL) {
            refused("17 parcel " + p, UNKNOWN, map -> map.move(p, 0, 13));
            refused("17 parcel " + p + " ahead of place", UNKNOWN, map -> map.move(p, 9, 13));
        }
        for (int c : NO_CORNER) {
            refused("17 corner " + c, UNKNOWN, map -> map.move(0, 0, c));
            refused("17 corner " + c + " ahead of place", UNKNOWN, map -> map.move(0, -1, c));
        }
        for (int i : new int[] {-1, 4, 12, LEAST, MOST}) {
            refused("17 place " + i, OUTSIDE, map -> map.move(0, i, 13));
            refused("17 place " + i + " ahead of twice", OUTSIDE, map -> map.move(0, i, 1));
            refused("17 place " + i + " ahead of over", OUTSIDE, map -> map.move(0, i, 12));
        }
    }

    private static void moveFault(String what, int want, int where, int i, int c) {
        refused("17 " + what, town(0, 1), town(0, 1), want, where, map -> map.move(0, i, c));
    }

    private static void moveFaults() {
        moveFault("to corner 1", TWICE, 1, 0, 1);
        moveFault("to the last corner", TWICE, 3, 0, 3);
        moveFault("the last to corner 0", TWICE, 3, 3, 0);
        moveFault("crossed", CROSSED, 103, 0, 12);
        moveFault("back on the next edge", CROSSED, 1, 0, 9);
        moveFault("twice ahead of crossed", TWICE, 2, 0, 2);
        moveFault("over", OVER, 1, 2, 12);
        moveFault("over the least of two", OVER, 1, 2, 13);
        moveFault("over the last", OVER, 4, 3, 9);
    }

    private static void borders() {
        for (int p : NO_PARCEL) {
            refused("18 p is " + p, UNKNOWN, map -> map.border(p, 0));
            refused("18 q is " + p, UNKNOWN, map -> map.border(0, p));
            refused("18 both are " + p, UNKNOWN, map -> map.border(p, p));
            refused("19 parcel " + p, UNKNOWN, map -> map.neighbour(p, 0));
            refused("19 parcel " + p + ", no such k", UNKNOWN, map -> map.neighbour(p, -1));
        }
        refused("18 p is q", OUTSIDE, map -> map.border(4, 4));
    }

    // ---- finding

    private static void finding() {
        for (int layer : NO_LAYER) {
            refused("20 layer " + layer, OUTSIDE, map -> map.locate(layer, ONE, ONE));
            refused("22 layer " + layer, OUTSIDE, map -> map.walk(layer, 0, 2, 0));
            refused("23 layer " + layer, OUTSIDE, map -> map.hull(layer));
        }
        for (long v : NO_NUMBER) {
            refused("20 x of bits " + v, OUTSIDE, map -> map.locate(0, v, ONE));
            refused("20 y of bits " + v, OUTSIDE, map -> map.locate(0, ONE, v));
        }
        for (int c : NO_CORNER) {
            refused("22 a is " + c, UNKNOWN, map -> map.walk(0, c, 2, 0));
            refused("22 b is " + c, UNKNOWN, map -> map.walk(0, 2, c, 0));
            refused("22 a is " + c + " ahead of layer", UNKNOWN, map -> map.walk(4, c, 2, 0));
            refused("22 b is " + c + " ahead of layer", UNKNOWN, map -> map.walk(-1, 2, c, 0));
            refused("22 both are " + c, UNKNOWN, map -> map.walk(0, c, c, 0));
        }
        refused("22 a is b", OUTSIDE, map -> map.walk(0, 11, 11, 0));
        refused("22 a is b, in an empty layer", OUTSIDE, map -> map.walk(2, 11, 11, 0));
        refused("23 a layer that never had any", STATE, map -> map.hull(2));
        refused("23 a layer whose last one is gone", STATE, map -> map.hull(3));
    }

    // ---- areas

    private static void areas() {
        for (int p : NO_PARCEL) {
            refused("25 parcel " + p, UNKNOWN, map -> map.twice(p));
            refused("26 p is " + p, UNKNOWN, map -> map.compare(p, 0));
            refused("26 q is " + p, UNKNOWN, map -> map.compare(0, p));
            refused("26 both are " + p, UNKNOWN, map -> map.compare(p, p));
            refused("27 parcel " + p, UNKNOWN, map -> map.quota(p, 10));
            refused("27 parcel " + p + " ahead of outside", UNKNOWN, map -> map.quota(p, 1001));
        }
        for (int n : new int[] {-1, 1001, LEAST, MOST}) {
            refused("27 n is " + n, OUTSIDE, map -> map.quota(0, n));
        }
    }

    // ---- what is told

    private static void whole() {
        for (int what : new int[] {-1, 8, LEAST, MOST}) {
            refused("29 what is " + what, OUTSIDE, map -> map.count(what));
        }
    }

    private static Bench undoneTown() {
        Bench b = town(0, 1);
        b.map.undo();
        return b;
    }

    private static void undone() {
        refused("28 undone already", undoneTown(), undoneTown(), STATE, TOWN_WHERE, map -> map.undo());
        refused("28 nothing to undo", new Bench(), new Bench(), STATE, 0, map -> map.undo());
        Call[] changes = {map -> map.close(0, 0), map -> map.give(GONE, 0), map -> map.drop(GONE),
            map -> map.split(0, 0, 1, 0), map -> map.join(0, 2), map -> map.move(0, 0, 1)};
        for (int i = 0; i < changes.length; i++) {
            Bench b = undoneTown();
            Bench.due("28 change " + i + " is refused", changes[i].on(b.map) < -100 ? 1 : 0, 1);
            Bench.due("28 a refused change is none to undo, " + i, b.map.undo(), STATE);
        }
    }

    /** Calls that only ask are no refusals, and change nothing either. */
    private static void asking() {
        Call[] asked = {map -> map.at(1, 0), map -> map.sure(), map -> map.cross(0, 2, 1, 3),
            map -> map.nearest(Bench.bits(77), ONE), map -> map.where(), map -> map.told(1, 3),
            map -> map.border(0, 1), map -> map.neighbour(0, 1), map -> map.edge(), map -> map.walk(0, 11, 12, 1),
            map -> map.hullAt(2), map -> map.twice(0), map -> map.compare(0, 1), map -> map.quota(0, 7),
            map -> map.count(2), map -> map.digest()};
        for (int i = 0; i < asked.length; i++) {
            Bench b = town(0, 1);
            asked[i].on(b.map);
            Bench.due("asking " + i + ": where", b.map.where(), TOWN_WHERE);
            dueAlike("asking " + i, b, town(0, 1));
        }
    }
}
