/** Promises 25 to 27: twice, compare, quota. */
public final class AreasTest {
    public static void main(String[] args) {
        twice();
        twiceRounded();
        compare();
        quota();
        quotaLikeRests();
        quotaOfLayers();
        quotaOfOneLess();
        quotaRefusals();
        quotaExactly();
        lastUnit();
        Bench.end();
    }

    private static void twice() {
        Bench b = new Bench();
        b.box(0, 0, 0, 0, 3, 5);
        b.close(1, 0, 0, 0, 0, 1, 1, 0);
        b.close(2, 0, -0x1p28, -0x1p28, 0x1p28, -0x1p28, 0x1p28, 0x1p28, -0x1p28, 0x1p28);
        Bench.due("25 a box", b.map.twice(0), 30);
        Bench.due("25 a triangle drawn to the right", b.map.twice(1), 1);
        Bench.due("25 the greatest", b.map.twice(2), 1L << 59);
        Bench.due("25 unknown", b.map.twice(3), -101);
        Bench.due("25 unknown below", b.map.twice(-1), -101);
        b.map.drop(0);
        Bench.due("25 gone", b.map.twice(0), -101);
    }

    private static void twiceRounded() {
        Bench b = new Bench();
        b.close(0, 0, 0, 0, 1, 0, 0, Math.nextDown(3.0));
        Bench.due("25 a bit below 3", b.map.twice(0), 2);
        b.map.drop(0);
        b.close(0, 0, 0, 0, 1, 0, 0, Math.nextUp(3.0));
        Bench.due("25 a bit above 3", b.map.twice(1), 3);
        b.close(1, 0, 0, 0, 0x1p-20, 0, 0, 0x1p-20);
        Bench.due("25 the least", b.map.twice(2), 0);
        // Exactly (2^28 - 2^-25) times itself: 2^56 - 16 and 2^-50.
        double near = Math.nextDown(0x1p28);
        b.close(2, 0, 0, 0, near, 0, 0, near);
        Bench.due("25 great and a bit", b.map.twice(3), (1L << 56) - 16);
        b.close(3, 0, -100, -100, -99.5, -100, -99.5, -99.5, -100, -99.5);
        Bench.due("25 a half", b.map.twice(4), 0);
    }

    private static void compare() {
        Bench b = new Bench();
        b.box(0, 0, 0, 0, 3, 4);
        b.box(1, 0, 100, 100, 102, 106);
        b.close(2, 0, 0, 0, 0x1p28, 0, 0, Math.nextUp(1.0));
        b.close(3, 0, 0, 0, 0x1p28, 0, 0, 1);
        Bench.due("26 like", b.map.compare(0, 1), 0);
        Bench.due("26 itself", b.map.compare(2, 2), 0);
        Bench.due("26 less", b.map.compare(0, 2), -1);
        Bench.due("26 more", b.map.compare(2, 1), 1);
        Bench.due("26 more by a last bit", b.map.compare(2, 3), 1);
        Bench.due("26 less by a last bit", b.map.compare(3, 2), -1);
        Bench.due("26 unknown p", b.map.compare(4, 0), -101);
        Bench.due("26 unknown q", b.map.compare(0, -1), -101);
    }

    private static void quota() {
        Bench b = new Bench();
        b.box(0, 0, 0, 0, 1, 5);
        b.box(0, 0, 1, 0, 4, 1);
        b.box(0, 0, 10, 0, 12, 1);
        b.box(1, 0, 0, 0, 9, 9);
        // Areas 5, 3, 2 of 10.
        Bench.due("27 ten, 0", b.map.quota(0, 10), 5);
        Bench.due("27 ten, 1", b.map.quota(1, 10), 3);
        Bench.due("27 ten, 2", b.map.quota(2, 10), 2);
        // 7: 3.5, 2.1, 1.4: one is left and goes to the first.
        Bench.due("27 seven, 0", b.map.quota(0, 7), 4);
        Bench.due("27 seven, 1", b.map.quota(1, 7), 2);
        Bench.due("27 seven, 2", b.map.quota(2, 7), 1);
        // 3: 1.5, 0.9, 0.6: two are left and go to the others.
        Bench.due("27 three, 0", b.map.quota(0, 3), 1);
        Bench.due("27 three, 1", b.map.quota(1, 3), 1);
        Bench.due("27 three, 2", b.map.quota(2, 3), 1);
        Bench.due("27 nought", b.map.quota(0, 0), 0);
        Bench.due("27 a thousand", b.map.quota(2, 1000), 200);
        Bench.due("27 alone in its layer", b.map.quota(3, 999), 999);
        b.map.drop(1);
        // 5 of 7 and 2 of 7: 7.14 and 2.86.
        Bench.due("27 without one that is gone", b.map.quota(0, 10), 7);
        Bench.due("27 without one that is gone, other", b.map.quota(2, 10), 3);
    }

    private static void quotaLikeRests() {
        Bench b = new Bench();
        b.box(0, 0, 0, 0, 1, 1);
        b.box(0, 0, 1, 0, 2, 1);
        b.box(0, 0, 2, 0, 3, 1);
        Bench.due("27 like rests, 0", b.map.quota(0, 2), 1);
        Bench.due("27 like rests, 1", b.map.quota(1, 2), 1);
        Bench.due("27 like rests, 2", b.map.quota(2, 2), 0);
        Bench.due("27 like rests of four, 0", b.map.quota(0, 4), 2);
        Bench.due("27 like rests of four, 1", b.map.quota(1, 4), 1);
    }

    /** What was asked of one layer, or of one that is gone, is nothing to another. */
    private static void quotaOfLayers() {
        Bench b = new Bench();
        b.box(0, 0, 0, 0, 1, 5);
        b.box(1, 0, 0, 0, 100, 10);
        b.box(0, 0, 1, 0, 4, 1);
        b.box(1, 0, 100, 0, 101, 999);
        b.box(0, 0, 10, 0, 12, 1);
        for (int again = 0; again < 2; again++) {
            // 7 of 5, 3, 2: 3.5, 2.1, 1.4; of 1000, 999: 3.502, 3.498.
            Bench.due("27 one layer, 0", b.map.quota(0, 7), 4);
            Bench.due("27 other layer, 1", b.map.quota(1, 7), 4);
            Bench.due("27 one layer, 2", b.map.quota(2, 7), 2);
            Bench.due("27 other layer, 3", b.map.quota(3, 7), 3);
            Bench.due("27 one layer, 4", b.map.quota(4, 7), 1);
        }
        Bench.due("27 all three with a rest, the greatest", b.map.quota(0, 11), 6);
        b.map.drop(0);
        // 11 of 3, 2: 6.6, 4.4.
        Bench.due("27 the greatest gone, 2", b.map.quota(2, 11), 7);
        Bench.due("27 the greatest gone, 4", b.map.quota(4, 11), 4);
    }

    /** 2 of 1375 and 3625: 0.55 and 1.45, so that the one whose whole share is 0 has the greater rest. */
    private static void quotaOfOneLess() {
        Bench b = new Bench();
        b.box(0, 0, 0, 0, 1375, 1);
        b.box(0, 0, 0, 1, 3625, 2);
        Bench.due("27 a rest and nothing else", b.map.quota(0, 2), 1);
        Bench.due("27 one and a lesser rest", b.map.quota(1, 2), 1);
    }

    private static void quotaRefusals() {
        Bench b = new Bench();
        b.box(0, 0, 0, 0, 1, 1);
        Bench.due("27 unknown", b.map.quota(1, 5), -101);
        Bench.due("27 unknown ahead of outside", b.map.quota(-1, 1001), -101);
        Bench.due("27 too much", b.map.quota(0, 1001), -102);
        Bench.due("27 below", b.map.quota(0, -1), -102);
    }

    /** With u = 2^-52: (1 + u)(1 + u) against 1 + 2u, by 2^-40: the least that areas can differ by. */
    private static void lastUnit() {
        Bench b = new Bench();
        double one = 0x1p-20, more = Math.nextUp(one), most = Math.nextUp(more);
        b.close(0, 0, 0, 0, most, 0, 0, one);
        b.close(0, 0, 0, 0, -more, 0, 0, -more);
        Bench.due("26 less by the last unit", b.map.compare(0, 1), -1);
        Bench.due("26 more by the last unit", b.map.compare(1, 0), 1);
        double e = one + 3 * Math.ulp(one), c = one + ((1 << 26) - 1) * Math.ulp(one);
        b.close(2, 0, 0, 0, more, 0, 0, e);
        b.close(3, 0, 0, 0, more, c, more, c + e);
        Bench.due("26 like to the last unit", b.map.compare(2, 3), 0);
        Bench.due("27 less by the last unit", b.map.quota(0, 7), 3);
        Bench.due("27 more by the last unit", b.map.quota(1, 7), 4);
        Bench.due("27 less by the last unit, one", b.map.quota(0, 1), 0);
        Bench.due("27 more by the last unit, one", b.map.quota(1, 1), 1);
    }

    /** Two nearly like ones: the odd one goes to the one that is greater by a last bit. */
    private static void quotaExactly() {
        Bench b = new Bench();
        b.close(0, 0, 0, 0, 0x1p28, 0, 0, 1);
        b.close(0, 0, 0, 0, 0, Math.nextDown(-1.0), 0x1p28, 0);
        Bench.due("27 by a last bit, less", b.map.quota(0, 7), 3);
        Bench.due("27 by a last bit, more", b.map.quota(1, 7), 4);
        Bench.due("27 by a last bit, halves", b.map.quota(0, 1000), 500);
    }
}
