/** Promises 20 to 24: locate, edge, walk, hull, hullAt. */
public final class FindingTest {
    private static final double[] BAY = {0, 0, 6, 0, 6, 6, 4, 6, 4, 2, 2, 2, 2, 6, 0, 6};

    public static void main(String[] args) {
        locate();
        locateExactly();
        locateLevel();
        edge();
        walk();
        walkBay();
        walkExactly();
        hull();
        hullExactly();
        hullOfAllCorners();
        hullAt();
        Bench.end();
    }

    private static void locate() {
        Bench b = new Bench();
        Bench.due("20 no parcels", b.locate(0, 1, 1), -1);
        b.box(0, 0, 4, 0, 8, 4);
        b.box(0, 0, 0, 0, 4, 4);
        b.box(1, 0, 0, 0, 8, 8);
        Bench.due("20 inside", b.locate(0, 1, 1), 1);
        Bench.due("20 inside another", b.locate(0, 5, 1), 0);
        Bench.due("20 on a common edge: the least", b.locate(0, 4, 2), 0);
        Bench.due("21 on a common edge: that one's", b.map.edge(), 3);
        Bench.due("20 at a corner", b.locate(0, 0, 0), 1);
        Bench.due("20 at a corner, minus zero", b.locate(0, -0.0, -0.0), 1);
        Bench.due("20 another layer", b.locate(1, 1, 1), 2);
        Bench.due("20 an empty layer", b.locate(2, 1, 1), -1);
        Bench.due("20 away", b.locate(0, 1, 5), -1);
        Bench.due("20 layer 4", b.locate(4, 1, 1), -102);
        Bench.due("20 layer -1", b.locate(-1, 1, 1), -102);
        Bench.due("20 no x", b.locate(0, Double.NaN, 1), -102);
        Bench.due("20 no y", b.locate(0, 1, 1e-9), -102);
        b.map.drop(0);
        Bench.due("20 gone", b.locate(0, 4, 2), 1);
        Bench.due("20 gone, none else", b.locate(0, 5, 2), -1);
        Bench.due("20 makes no corner", b.map.nearest(Bench.bits(5), Bench.bits(2)), b.corner(4, 0));
    }

    private static void locateExactly() {
        Bench b = new Bench();
        b.close(0, 0, 0, 0, 0x1p28, 0, 0x1p28, 0x1p28);
        Bench.due("20 a bit below the line", b.locate(0, 0.1, Math.nextDown(0.1)), 0);
        Bench.due("20 a bit below: inside", b.map.edge(), -1);
        Bench.due("20 on the line", b.locate(0, 0.1, 0.1), 0);
        Bench.due("20 on the line: edge", b.map.edge(), 2);
        Bench.due("20 a bit above the line", b.locate(0, 0.1, Math.nextUp(0.1)), -1);
        Bench.due("20 a bit above: none", b.map.edge(), -1);
    }

    /** Points level with corners, where a ray would pass through them. */
    private static void locateLevel() {
        Bench b = new Bench();
        b.close(0, 0, 0, 0, 4, 0, 6, 2, 4, 4, 0, 4, 2, 2);
        Bench.due("20 level with two corners, inside", b.locate(0, 3, 2), 0);
        Bench.due("20 level with two corners, before", b.locate(0, 1, 2), -1);
        Bench.due("20 level with two corners, far before", b.locate(0, -5, 2), -1);
        Bench.due("20 level with two corners, behind", b.locate(0, 7, 2), -1);
        Bench.due("20 level with an edge, before", b.locate(0, -1, 4), -1);
        Bench.due("20 level with an edge, behind", b.locate(0, 5, 4), -1);
        Bench.due("20 level with the lower edge, behind", b.locate(0, 5, 0), -1);
        Bench.due("20 upright with corners, above", b.locate(0, 4, 5), -1);
        Bench.due("20 upright with corners, inside", b.locate(0, 4, 2), 0);
        Bench c = new Bench();
        c.close(0, 0, BAY);
        Bench.due("20 in the bay", c.locate(0, 3, 5), -1);
        Bench.due("20 level with the bay's foot", c.locate(0, 1, 2), 0);
        Bench.due("20 level with the bay's foot, inside", c.map.edge(), -1);
        Bench.due("20 between the tops", c.locate(0, 3, 6), -1);
        Bench.due("20 on the bay's foot", c.locate(0, 3, 2), 0);
        Bench.due("20 on the bay's foot, edge", c.map.edge(), 4);
    }

    private static void edge() {
        Bench b = new Bench();
        b.box(0, 0, 0, 0, 4, 4);
        b.locate(0, 4, 2);
        Bench.due("21 on edge 1", b.map.edge(), 1);
        b.locate(0, 4, 4);
        Bench.due("21 at corner 2: the least", b.map.edge(), 1);
        b.locate(0, 0, 0);
        Bench.due("21 at corner 0: the least", b.map.edge(), 0);
        b.locate(0, 0, 1);
        Bench.due("21 on edge 3", b.map.edge(), 3);
        b.locate(7, 1, 1);
        b.locate(0, 1, 1e-9);
        Bench.due("21 a refusal changes nothing", b.map.edge(), 3);
        b.map.drop(0);
        Bench.due("21 as it lay then", b.map.edge(), 3);
        b.map.undo();
        b.locate(0, 2, 2);
        Bench.due("21 inside", b.map.edge(), -1);
        b.locate(0, 0, 1);
        b.locate(0, 9, 9);
        Bench.due("21 none found", b.map.edge(), -1);
        b.locate(0, 0, 1);
        b.locate(1, 0, 1);
        Bench.due("21 none found in another layer", b.map.edge(), -1);
    }

    private static int walk(Bench b, double x, double y, double x2, double y2, int k) {
        return b.map.walk(0, b.corner(x, y), b.corner(x2, y2), k);
    }

    private static void walk() {
        Bench b = new Bench();
        b.box(0, 0, 8, 0, 12, 4);
        b.box(0, 0, 0, 0, 4, 4);
        b.box(1, 0, 4, 0, 8, 4);
        b.box(0, 0, 4, 4, 8, 8);
        Bench.due("22 by numbers", walk(b, -1, 2, 20, 2, 0), 0);
        Bench.due("22 by numbers, second", walk(b, -1, 2, 20, 2, 1), 1);
        Bench.due("22 no third", walk(b, -1, 2, 20, 2, 2), -1);
        Bench.due("22 k below", walk(b, -1, 2, 20, 2, -1), -1);
        Bench.due("22 turned", walk(b, 20, 2, -1, 2, 0), 0);
        Bench.due("22 all inside", walk(b, 1, 1, 2, 3, 0), 1);
        Bench.due("22 from inside out", walk(b, 1, 1, 1, 9, 0), 1);
        Bench.due("22 from inside to an edge", walk(b, 1, 1, 4, 1, 0), 1);
        Bench.due("22 from edge to edge", walk(b, 0, 1, 4, 1, 0), 1);
        Bench.due("22 from corner to corner", walk(b, 0, 0, 4, 4, 0), 1);
        Bench.due("22 from corner to corner, on", walk(b, -1, -1, 9, 9, 1), 3);
        Bench.due("22 along an edge", walk(b, 0, 0, 4, 0, 0), -1);
        Bench.due("22 along edges and past", walk(b, -3, 4, 20, 4, 0), -1);
        Bench.due("22 part of an edge", walk(b, 1, 0, 2, 0, 0), -1);
        Bench.due("22 touching a corner", walk(b, -1, 1, 1, -1, 0), -1);
        Bench.due("22 ends at an edge", walk(b, -1, 2, 0, 2, 0), -1);
        Bench.due("22 ends at a corner", walk(b, -1, -1, 0, 0, 0), -1);
        Bench.due("22 starts at an edge, away", walk(b, 2, 0, 2, -9, 0), -1);
        Bench.due("22 an empty layer", b.map.walk(3, 0, 2, 0), -1);
        Bench.due("22 unknown a", b.map.walk(0, -1, 2, 0), -101);
        Bench.due("22 unknown b", b.map.walk(0, 0, 200, 0), -101);
        Bench.due("22 unknown ahead of outside", b.map.walk(9, 0, 200, 0), -101);
        Bench.due("22 layer 4", b.map.walk(4, 0, 2, 0), -102);
        Bench.due("22 layer -1", b.map.walk(-1, 0, 2, 0), -102);
        Bench.due("22 a is b", b.map.walk(0, 2, 2, 0), -102);
        b.map.drop(0);
        Bench.due("22 without one that is gone", walk(b, -1, 2, 20, 2, 0), 1);
        Bench.due("22 without one that is gone, no second", walk(b, -1, 2, 20, 2, 1), -1);
        Bench.due("22 of another layer", b.map.walk(1, b.corner(-1, 2), b.corner(20, 2), 0), 2);
    }

    private static void walkBay() {
        Bench b = new Bench();
        b.close(0, 0, BAY);
        Bench.due("22 in the bay", walk(b, 3, 9, 3, 3, 0), -1);
        Bench.due("22 in the bay, to its foot", walk(b, 3, 9, 3, 2, 0), -1);
        Bench.due("22 in the bay, corner to corner", walk(b, 2, 6, 4, 2, 0), -1);
        Bench.due("22 over the bay's mouth", walk(b, 2, 6, 4, 6, 0), -1);
        Bench.due("22 along the tops", walk(b, -1, 6, 9, 6, 0), -1);
        Bench.due("22 along the bay's foot", walk(b, 2, 2, 4, 2, 0), -1);
        Bench.due("22 along the bay's foot and on", walk(b, 2, 2, 5, 2, 0), 0);
        Bench.due("22 along the bay's foot from before", walk(b, -1, 2, 3, 2, 0), 0);
        Bench.due("22 along the bay's wall and on", walk(b, 4, 8, 4, 1, 0), 0);
        Bench.due("22 across the bay", walk(b, 1, 5, 5, 5, 0), 0);
        Bench.due("22 through the bay's inner corner", walk(b, 3, 3, 5, 1, 0), 0);
        Bench.due("22 past the bay's inner corner", walk(b, 2, 6, 5, 0, 0), 0);
    }

    private static void walkExactly() {
        Bench b = new Bench();
        b.close(0, 0, 0, 0, 0x1p28, 0, 0x1p28, 0x1p28);
        Bench.due("22 ends a bit past the line", walk(b, 0.1, 9, 0.1, Math.nextDown(0.1), 0), 0);
        Bench.due("22 ends on the line", walk(b, 0.1, 9, 0.1, 0.1, 0), -1);
        Bench.due("22 ends a bit short", walk(b, 0.1, 9, 0.1, Math.nextUp(0.1), 0), -1);
        Bench.due("22 along the line", walk(b, 0.1, 0.1, 1e6, 1e6, 0), -1);
        Bench.due("22 nearly along the line", walk(b, 0.1, 0.1, 1e6, Math.nextDown(1e6), 0), 0);
        Bench.due("22 nearly along, outside", walk(b, 0.1, 0.1, 1e6, Math.nextUp(1e6), 0), -1);
    }

    private static void dueHull(Bench b, String what, int layer, double... xy) {
        Bench.due("23 " + what, b.map.hull(layer), xy.length / 2);
        for (int k = 0; k < xy.length / 2; k++) {
            Bench.due("24 " + what + ", corner " + k, b.map.hullAt(k), b.corner(xy[2 * k], xy[2 * k + 1]));
        }
        Bench.due("24 " + what + ", no more", b.map.hullAt(xy.length / 2), -1);
    }

    private static void hull() {
        Bench b = new Bench();
        Bench.due("23 no parcels", b.map.hull(0), -103);
        Bench.due("23 layer 4", b.map.hull(4), -102);
        Bench.due("23 layer -1", b.map.hull(-1), -102);
        b.close(0, 0, BAY);
        dueHull(b, "around a bay", 0, 0, 0, 6, 0, 6, 6, 0, 6);
        b.close(1, 0, 0, 0, 2, 0, 4, 0, 2, 3);
        dueHull(b, "a straight corner", 1, 0, 0, 4, 0, 2, 3);
        b.close(0, 0, 6, 0, 12, 0, 12, 3);
        dueHull(b, "around two", 0, 0, 0, 12, 0, 12, 3, 6, 6, 0, 6);
        b.close(0, 0, -2, 3, 0, 2, 0, 4);
        dueHull(b, "a corner ahead", 0, -2, 3, 0, 0, 12, 0, 12, 3, 6, 6, 0, 6);
        Bench.due("23 an empty layer", b.map.hull(2), -103);
        b.map.drop(0);
        dueHull(b, "without one that is gone", 0, -2, 3, 0, 2, 6, 0, 12, 0, 12, 3, 0, 4);
    }

    private static void hullExactly() {
        Bench b = new Bench();
        double most = 0x1p28, up = Math.nextUp(0.1);
        b.close(0, 0, 0, 0, most, most, 0, most);
        b.close(0, 0, 0, 0, 0.1, up, 0, up);
        b.close(1, 0, 0, 0, most, most, 0.1, up);
        dueHull(b, "a bit above the line", 1, 0, 0, most, most, 0.1, up);
        Bench.due("23 under the line is over", b.close(0, 0, 0.1, 0.1, 50, 50, 49, 50), -204);
        b.close(2, 0, 0, 0, most, most, 5, 9e5);
        b.close(2, 0, 0, 0, 0.1, Math.nextDown(0.1), most, most);
        dueHull(b, "a bit below the line", 2, 0, 0, 0.1, Math.nextDown(0.1), most, most, 5, 9e5);
    }

    /** All 200 corners on a bow, in parcels that share some, so that more than 200 are told. */
    private static void hullOfAllCorners() {
        Bench b = new Bench();
        for (int i = 199; i >= 0; i--) {
            b.corner(i, i * i);
        }
        for (int from = 0; from < 199; ) {
            int to = from == 187 ? 197 : Math.min(199, from + 11);
            b.map.draw();
            for (int i = from; i <= to; i++) {
                b.map.add(199 - i);
            }
            b.map.close(0, 0);
            from = to;
        }
        Bench.due("23 all corners: parcels", b.map.count(4), 19);
        Bench.due("23 all corners", b.map.hull(0), 200);
        for (int k = 0; k < 200; k += 30) {
            Bench.due("24 all corners, corner " + k, b.map.hullAt(k), 199 - k);
        }
        Bench.due("24 all corners, the last", b.map.hullAt(199), 0);
        Bench.due("24 all corners, no more", b.map.hullAt(200), -1);
    }

    private static void hullAt() {
        Bench b = new Bench();
        Bench.due("24 before any", b.map.hullAt(0), -1);
        b.close(0, 0, 0, 0, 0, -4, 3, 3);
        b.map.hull(0);
        Bench.due("24 same x: the lesser y", b.map.hullAt(0), b.corner(0, -4));
        Bench.due("24 below", b.map.hullAt(-1), -1);
        b.map.hull(1);
        b.map.hull(9);
        Bench.due("24 a refusal changes nothing", b.map.hullAt(1), b.corner(3, 3));
        b.map.drop(0);
        Bench.due("24 as it was found", b.map.hullAt(2), b.corner(0, 0));
        Bench.due("24 no more", b.map.hullAt(3), -1);
        b.box(0, 0, 0, 0, 1, 1);
        b.map.hull(0);
        Bench.due("24 found anew", b.map.hullAt(3), b.corner(0, 1));
    }
}
