/** Promises 1 to 7: a new object, corner, at, side, sure, cross, nearest. */
public final class CornersTest {
    public static void main(String[] args) {
        newObject();
        corner();
        cornerFull();
        at();
        side();
        sideBeyondDoubles();
        sideAgainstTheEstimate();
        sure();
        cross();
        crossNearly();
        nearest();
        Bench.end();
    }

    private static void newObject() {
        ParcelMap map = new ParcelMap();
        for (int what = 0; what < 8; what++) {
            Bench.due("1 new count " + what, map.count(what), 0);
        }
        Bench.due("1 new where", map.where(), 0);
        Bench.due("1 new undo", map.undo(), -103);
        Bench.due("1 new draw", map.draw(), 0);
        Bench.due("1 new sure", map.sure(), -1);
        Bench.due("1 new edge", map.edge(), -1);
        Bench.due("1 new hullAt", map.hullAt(0), -1);
        Bench.due("1 new digest", map.digest(), 23);
        Bench.due("1 new told", map.told(0, 0), -101);
        Bench.due("1 new nearest", map.nearest(0, 0), -1);
        Bench.due("1 new locate", map.locate(0, 0, 0), -1);
    }

    private static void corner() {
        Bench b = new Bench();
        Bench.due("2 first", b.corner(1, 2), 0);
        Bench.due("2 second", b.corner(2, 1), 1);
        Bench.due("2 first again", b.corner(1, 2), 0);
        Bench.due("2 zero", b.corner(0.0, 0.0), 2);
        Bench.due("2 minus zero is zero", b.corner(-0.0, -0.0), 2);
        Bench.due("2 least", b.corner(0x1p-20, -0x1p-20), 3);
        Bench.due("2 most", b.corner(0x1p28, -0x1p28), 4);
        double[] bad = {Math.nextDown(0x1p-20), Math.nextUp(0x1p28), -Math.nextDown(0x1p-20), -Math.nextUp(0x1p28),
            Double.NaN, Double.POSITIVE_INFINITY, Double.NEGATIVE_INFINITY, Double.MIN_VALUE, -Double.MIN_VALUE};
        for (double v : bad) {
            Bench.due("2 x is " + v, b.corner(v, 1), -102);
            Bench.due("2 y is " + v, b.corner(1, v), -102);
        }
        Bench.due("2 -1 as bits", b.map.corner(-1L, 0), -102);
        Bench.due("2 count", b.map.count(0), 5);
    }

    private static void cornerFull() {
        Bench b = new Bench();
        for (int i = 0; i < 200; i++) {
            Bench.due("2 corner " + i, b.corner(i, 7), i);
        }
        Bench.due("2 full", b.corner(200, 7), -104);
        Bench.due("2 outside ahead of full", b.corner(1e9, 7), -102);
        Bench.due("2 known when full", b.corner(199, 7), 199);
        Bench.due("2 nearest when full", b.nearest(198.6, 9), 199);
        Bench.due("2 count when full", b.map.count(0), 200);
    }

    private static void at() {
        Bench b = new Bench();
        b.corner(0.1, -3);
        b.corner(-0.0, 5);
        b.corner(0x1.0000000000001p-20, -0x1p28);
        Bench.due("3 x", b.map.at(0, 0), Bench.bits(0.1));
        Bench.due("3 y", b.map.at(0, 1), Bench.bits(-3));
        Bench.due("3 zero", b.map.at(1, 0), 0);
        Bench.due("3 least", b.map.at(2, 0), Bench.bits(0x1.0000000000001p-20));
        Bench.due("3 most", b.map.at(2, 1), Bench.bits(-0x1p28));
        Bench.due("3 unknown", b.map.at(3, 0), -101);
        Bench.due("3 unknown below", b.map.at(-1, 0), -101);
        Bench.due("3 unknown ahead of outside", b.map.at(200, 2), -101);
        Bench.due("3 outside", b.map.at(0, 2), -102);
        Bench.due("3 outside below", b.map.at(0, -1), -102);
    }

    private static void side() {
        Bench b = new Bench();
        int o = b.corner(0, 0), e = b.corner(1, 0), n = b.corner(0, 1), far = b.corner(5, 0);
        Bench.due("4 left", b.map.side(o, e, n), 1);
        Bench.due("4 right", b.map.side(e, o, n), -1);
        Bench.due("4 in line", b.map.side(o, e, far), 0);
        Bench.due("4 one corner", b.map.side(o, o, o), 0);
        Bench.due("4 a is b", b.map.side(o, o, n), 0);
        Bench.due("4 unknown a", b.map.side(-1, e, n), -101);
        Bench.due("4 unknown b", b.map.side(o, 4, n), -101);
        Bench.due("4 unknown c", b.map.side(o, e, Integer.MAX_VALUE), -101);
    }

    private static void sideBeyondDoubles() {
        Bench b = new Bench();
        int o = b.corner(0, 0), far = b.corner(0x1p28, 0x1p28);
        int on = b.corner(0.1, 0.1);
        int above = b.corner(0.1, Math.nextUp(0.1)), below = b.corner(0.1, Math.nextDown(0.1));
        Bench.due("4 on the line", b.map.side(o, far, on), 0);
        Bench.due("4 a bit above", b.map.side(o, far, above), 1);
        Bench.due("4 a bit below", b.map.side(o, far, below), -1);
        int left = b.corner(-0x1p28, -0x1.fffffffffffffp27);
        int tiny = b.corner(0x1p-20, 0x1.0000000000001p-20);
        Bench.due("4 smallest against greatest", b.map.side(left, far, tiny), -1);
        int third = b.corner(1 / 3.0, 1 / 3.0), twoThirds = b.corner(2 / 3.0, 2 / 3.0);
        int one = b.corner(1, Math.nextDown(1.0));
        Bench.due("4 nearly in line", b.map.side(third, twoThirds, one), -1);
        // Lines whose points have no common line in doubles, only by a last bit of the product.
        int p = b.corner(0x1.0000000000001p0, 0x1.0000000000002p0);
        int q = b.corner(0x1.0000000000003p0, 0x1.0000000000006p0);
        Bench.due("4 last bits", b.map.side(o, p, q), 1);
    }

    /** The differences are rounded, so that the estimate is on another side, and not sure. */
    private static void sideAgainstTheEstimate() {
        dueAgainst("right, though it is left", 1, 12, 12, 24, 24, 0x1.0000000000029p-1, 0x1.0000000000030p-1);
        dueAgainst("left, though it is right", -1, 12, 12, 24, 24, 0x1.0000000000030p-1, 0x1.0000000000029p-1);
        dueAgainst("right, though it is in line", 0, 0x1.97b74f3acfff4p+0, 0x1.31c97b6c1bff7p+2,
                0x1.216362d4a6d28p+10, 0x1.b215143efa3bcp+11, 0x1.ea7b57ad58690p-10, 0x1.6fdc81c2024ecp-8);
        dueAgainst("left, though it is in line", 0, 0x1.795ba6a6a03f4p+0, 0x1.1b04bcfcf82f7p+2,
                0x1.94b2a80bcd298p+10, 0x1.2f85fe08d9df2p+12, 0x1.9b0884319ff64p-10, 0x1.3446632537f8bp-8);
    }

    private static void dueAgainst(String what, int side, double ax, double ay, double bx, double by, double cx, double cy) {
        double e = (ax - cx) * (by - cy), f = (ay - cy) * (bx - cx);
        Bench.due("the estimate is " + what, e > f ? 1 : -1, what.startsWith("left") ? 1 : -1);
        Bench b = new Bench();
        int one = b.corner(ax, ay), two = b.corner(bx, by), c = b.corner(cx, cy);
        Bench.due("4 told " + what, b.map.side(one, two, c), side);
        Bench.due("5 told " + what, b.map.sure(), 0);
        int high = b.corner(cx, 4096), low = b.corner(cx, -4096);
        // Beyond c the line a b goes on: c is its end, and the upright ones begin or end there.
        Bench.due("6 upwards, " + what, b.map.cross(two, c, high, c), 2);
        Bench.due("6 downwards, " + what, b.map.cross(two, c, low, c), 2);
        Bench.due("6 with the part to a, " + what, b.map.cross(two, c, one, c), side == 0 ? 3 : 2);
    }

    private static void sure() {
        Bench b = new Bench();
        int o = b.corner(0, 0), e = b.corner(1, 0), n = b.corner(0, 1), far = b.corner(0x1p28, 0x1p28);
        int above = b.corner(0.1, Math.nextUp(0.1));
        Bench.due("5 none before any", b.map.sure(), -1);
        b.map.side(o, e, 99);
        Bench.due("5 a refusal is none", b.map.sure(), -1);
        b.map.side(o, e, n);
        Bench.due("5 sure", b.map.sure(), 1);
        b.map.side(o, far, above);
        Bench.due("5 not sure", b.map.sure(), 0);
        b.map.side(o, e, 99);
        Bench.due("5 a refusal changes nothing", b.map.sure(), 0);
        b.map.side(o, e, n);
        b.map.cross(o, far, above, e);
        Bench.due("5 only side counts", b.map.sure(), 1);
        b.map.side(o, e, o);
        Bench.due("5 nothing is not above nothing", b.map.sure(), 0);
        sureEdge(1 + 3 * 0x1p-50, 1);
        sureEdge(1 + 2 * 0x1p-50, 0);
        sureEdge(1 + 2 * 0x1p-50 + 0x1p-52, 1);
    }

    /** From (0, 0): e is 1 times v, f is 1 times 1, so v - 1 stands against (v + 1) / 2^50. */
    private static void sureEdge(double v, int want) {
        Bench b = new Bench();
        int a = b.corner(1, 1), c = b.corner(0, 0), d = b.corner(1, v);
        Bench.due("5 side for " + v, b.map.side(a, d, c), 1);
        Bench.due("5 sure for " + v, b.map.sure(), want);
    }

    private static void cross() {
        Bench b = new Bench();
        int o = b.corner(0, 0), e = b.corner(4, 0), m = b.corner(2, 0), mUp = b.corner(2, 2), mDown = b.corner(2, -2);
        int f = b.corner(6, 0), up = b.corner(4, 3), away = b.corner(9, 9), g = b.corner(8, 0);
        Bench.due("6 inside of both", b.map.cross(o, e, mUp, mDown), 1);
        Bench.due("6 end inside the other", b.map.cross(o, e, m, mUp), 2);
        Bench.due("6 the other's end inside", b.map.cross(m, mUp, o, e), 2);
        Bench.due("6 end to end, round a bend", b.map.cross(o, e, e, up), 2);
        Bench.due("6 end to end in line", b.map.cross(o, e, e, f), 2);
        Bench.due("6 part in common", b.map.cross(o, e, m, f), 3);
        Bench.due("6 part in common, other way", b.map.cross(o, e, f, m), 3);
        Bench.due("6 the same", b.map.cross(o, e, o, e), 3);
        Bench.due("6 the same, turned", b.map.cross(o, e, e, o), 3);
        Bench.due("6 one in the other", b.map.cross(o, f, m, e), 3);
        Bench.due("6 from one end on", b.map.cross(o, m, o, e), 3);
        Bench.due("6 in line and apart", b.map.cross(o, m, f, g), 0);
        Bench.due("6 apart", b.map.cross(o, e, mUp, away), 0);
        Bench.due("6 lines meet, segments do not", b.map.cross(m, mUp, up, away), 0);
        Bench.due("6 upright in line", b.map.cross(mDown, m, m, mUp), 2);
        Bench.due("6 upright, part in common", b.map.cross(mDown, mUp, m, mUp), 3);
        Bench.due("6 unknown", b.map.cross(o, e, m, 9), -101);
        Bench.due("6 unknown a", b.map.cross(-1, e, m, f), -101);
        Bench.due("6 unknown ahead of outside", b.map.cross(o, o, m, 9), -101);
        Bench.due("6 a is b", b.map.cross(o, o, m, e), -102);
        Bench.due("6 c is d", b.map.cross(o, e, m, m), -102);
    }

    private static void crossNearly() {
        Bench b = new Bench();
        int o = b.corner(0, 0), far = b.corner(0x1p28, 0x1p28), low = b.corner(0.1, -5);
        int on = b.corner(0.1, 0.1), above = b.corner(0.1, Math.nextUp(0.1)), below = b.corner(0.1, Math.nextDown(0.1));
        Bench.due("6 just over", b.map.cross(o, far, low, above), 1);
        Bench.due("6 just at", b.map.cross(o, far, low, on), 2);
        Bench.due("6 just short", b.map.cross(o, far, low, below), 0);
    }

    private static void nearest() {
        Bench b = new Bench();
        Bench.due("7 without corners", b.nearest(0, 0), -1);
        Bench.due("7 outside without corners", b.nearest(1e-9, 0), -102);
        b.corner(0, 0);
        b.corner(10, 0);
        b.corner(0, 10);
        b.corner(10, 10);
        Bench.due("7 near the second", b.nearest(9, 1), 1);
        Bench.due("7 as near: the least", b.nearest(5, 5), 0);
        Bench.due("7 as near: the lesser of two", b.nearest(10, 5), 1);
        Bench.due("7 at a corner", b.nearest(0, 10), 2);
        Bench.due("7 minus zero", b.nearest(-0.0, 10), 2);
        Bench.due("7 outside x", b.nearest(Double.NaN, 0), -102);
        Bench.due("7 outside y", b.nearest(0, 1e-7), -102);
        Bench.due("7 makes no corner", b.map.count(0), 4);
        Bench c = new Bench();
        c.corner(0x1p28, Math.nextUp(0.1));
        c.corner(0x1p28, 0.1);
        c.corner(0x1p28, -0.1);
        Bench.due("7 by a last bit", c.nearest(-0x1p28, 0), 1);
        Bench.due("7 by a last bit, other side", c.nearest(-0x1p28, -0x1p-20), 2);
    }
}
