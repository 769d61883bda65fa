/**
 * The last value that is taken and the first that is not, the least and the greatest, the empty and
 * the full, and the way round from the last to the first: by the promises' numbers.
 */
public final class BoundariesTest {
    private static final int LEAST = Integer.MIN_VALUE, MOST = Integer.MAX_VALUE;
    private static final double SMALL = 0x1p-20, GREAT = 0x1p28;

    /** A ring of twelve, turning left, with a corner 0 ahead of all others and none in line. */
    private static final double[] TWELVE = {-12, 0, -10, -6, -6, -10, 0, -12, 6, -10, 10, -6,
        12, 0, 10, 6, 6, 10, 0, 12, -6, 10, -10, 6};

    public static void main(String[] args) {
        numbers();
        zeros();
        cornersAlike();
        sureness();
        crossEnds();
        nearestOf();
        drawn();
        ringSizes();
        layersAndOwners();
        crossedRoundTheEnd();
        overByLeast();
        parcelsFull();
        toldOfTwelve();
        dropLast();
        splitEnds();
        splitLeast();
        joinRoundTheEnd();
        moveEnds();
        neighbours();
        located();
        edges();
        walked();
        hulls();
        twiceEnds();
        compareEnds();
        quotaEnds();
        quotaOfSixty();
        undoEnds();
        counts();
        digestWraps();
        lastCall();
        Bench.end();
    }

    // ---- corners

    private static void numbers() {
        double[] taken = {SMALL, -SMALL, Math.nextUp(SMALL), -Math.nextUp(SMALL), GREAT, -GREAT,
            Math.nextDown(GREAT), -Math.nextDown(GREAT), 1, -1, 0x1.fffffffffffffp-20};
        Bench b = new Bench();
        for (int i = 0; i < taken.length; i++) {
            Bench.due("2 x is " + taken[i], b.corner(taken[i], 0), 2 * i);
            Bench.due("2 y is " + taken[i], b.corner(0, taken[i]), 2 * i + 1);
            Bench.due("3 x is " + taken[i], b.map.at(2 * i, 0), Bench.bits(taken[i]));
            Bench.due("3 y is " + taken[i], b.map.at(2 * i + 1, 1), Bench.bits(taken[i]));
            Bench.due("7 x is " + taken[i], b.nearest(taken[i], 0), 2 * i);
            Bench.due("7 y is " + taken[i], b.nearest(0, taken[i]), 2 * i + 1);
            Bench.due("20 x is " + taken[i], b.locate(0, taken[i], 0), -1);
            Bench.due("20 y is " + taken[i], b.locate(0, 0, taken[i]), -1);
        }
    }

    private static void zeros() {
        Bench b = new Bench();
        Bench.due("2 minus zero first", b.corner(-0.0, -0.0), 0);
        Bench.due("2 then zero", b.corner(0.0, 0.0), 0);
        Bench.due("2 minus zero x", b.corner(-0.0, 0.0), 0);
        Bench.due("2 minus zero y", b.corner(0.0, -0.0), 0);
        Bench.due("3 x of minus zero", b.map.at(0, 0), 0);
        Bench.due("3 y of minus zero", b.map.at(0, 1), 0);
        Bench.due("2 minus zero beside another", b.corner(-0.0, -7), 1);
        Bench.due("2 zero beside another", b.corner(0.0, -7), 1);
        Bench.due("3 zero beside another", b.map.at(1, 0), 0);
    }

    private static void cornersAlike() {
        Bench b = new Bench();
        Bench.due("2 the first", b.corner(1, 2), 0);
        Bench.due("2 turned is another", b.corner(2, 1), 1);
        Bench.due("2 x by a last bit is another", b.corner(Math.nextUp(1.0), 2), 2);
        Bench.due("2 y by a last bit is another", b.corner(1, Math.nextUp(2.0)), 3);
        Bench.due("2 the other sign is another", b.corner(-1, 2), 4);
        Bench.due("2 the first again", b.corner(1, 2), 0);
        Bench.due("2 the last again", b.corner(-1, 2), 4);
    }

    /** From (0, 0): e is 1 times v, f is 1 times w, so e - f stands against the sizes by 2^50. */
    private static void dueSure(String what, double v, double w, int side, int sure) {
        Bench b = new Bench();
        int c = b.corner(0, 0), one = b.corner(1, w), two = b.corner(1, v);
        Bench.due("4 " + what, b.map.side(one, two, c), side);
        Bench.due("5 " + what, b.map.sure(), sure);
        Bench.due("4 " + what + ", turned", b.map.side(two, one, c), -side);
        Bench.due("5 " + what + ", turned", b.map.sure(), sure);
    }

    private static void sureness() {
        double u = 0x1p-50, last = 0x1p-52;
        dueSure("just like is not above", 1 + u, 1 - u, 1, 0);
        dueSure("a bit above", 1 + u + last, 1 - u, 1, 1);
        dueSure("a bit below", 1 + u - last, 1 - u, 1, 0);
        dueSure("below 0, just like", -1 + u, -1 - u, 1, 0);
        dueSure("below 0, a bit above", -1 + u, -1 - u - last, 1, 1);
        dueSure("other signs", SMALL, -SMALL, 1, 1);
        dueSure("one is nought", SMALL, 0, 1, 1);
        dueSure("both are the same", 3, 3, 0, 0);
        dueSure("both are nought", 0, 0, 0, 0);
        dueSure("the greatest against the least", GREAT, SMALL, 1, 1);
        // The differences are rounded to like numbers: the estimate is 0, the side is not.
        Bench b = new Bench();
        int a = b.corner(SMALL, SMALL), far = b.corner(GREAT, GREAT);
        int other = b.corner(-GREAT, Math.nextUp(-GREAT));
        Bench.due("4 the estimate is 0", b.map.side(a, far, other), b.map.side(far, other, a));
        Bench.due("4 the estimate is 0: left", b.map.side(a, far, other), 1);
        Bench.due("5 the estimate is 0", b.map.sure(), 0);
    }

    private static void crossEnds() {
        Bench b = new Bench();
        int low = b.corner(-GREAT, -GREAT), high = b.corner(GREAT, GREAT), zero = b.corner(0, 0);
        int on = b.corner(SMALL, SMALL), above = b.corner(SMALL, Math.nextUp(SMALL)), up = b.corner(SMALL, 7);
        int below = b.corner(SMALL, -7), right = b.corner(7, SMALL);
        Bench.due("6 ends on the greatest", b.map.cross(low, high, on, up), 2);
        Bench.due("6 begins a bit off it", b.map.cross(low, high, above, up), 0);
        Bench.due("6 goes a bit beyond it", b.map.cross(low, high, above, below), 1);
        Bench.due("6 half of it", b.map.cross(low, high, zero, on), 3);
        Bench.due("6 two halves", b.map.cross(low, zero, zero, high), 2);
        Bench.due("6 two halves, turned", b.map.cross(zero, low, high, zero), 2);
        Bench.due("6 parts apart by the least", b.map.cross(low, zero, on, high), 0);
        Bench.due("6 one begins where the other does", b.map.cross(zero, high, zero, up), 2);
        Bench.due("6 one ends where the other does", b.map.cross(low, on, up, on), 2);
        Bench.due("6 a level and an upright one, end to end", b.map.cross(on, up, on, right), 2);
    }

    private static void nearestOf() {
        Bench b = new Bench();
        b.corner(GREAT, GREAT);
        Bench.due("7 the only one, from as far as can be", b.nearest(-GREAT, -GREAT), 0);
        b.corner(GREAT, Math.nextDown(GREAT));
        Bench.due("7 nearer by a last bit", b.nearest(-GREAT, -GREAT), 1);
        b.corner(Math.nextDown(GREAT), GREAT);
        Bench.due("7 as near, the least", b.nearest(-GREAT, -GREAT), 1);
        b.corner(Math.nextDown(GREAT), Math.nextDown(GREAT));
        Bench.due("7 the latest is nearest", b.nearest(-GREAT, -GREAT), 3);
        Bench.due("7 on one", b.nearest(GREAT, GREAT), 0);
        Bench c = new Bench();
        for (int i = 0; i < 200; i++) {
            c.corner(i < 198 ? 1000 + i : 198 - i, i < 198 ? 0 : 5);
        }
        Bench.due("7 the last of 200", c.nearest(-1, 5), 199);
        Bench.due("7 the last but one", c.nearest(-0.25, 5), 198);
        Bench.due("7 as near, the last two", c.nearest(-0.5, -900), 198);
    }

    // ---- drawing

    private static void drawn() {
        Bench b = new Bench();
        Bench.due("8 none before the first", b.map.draw(), 0);
        b.corner(0, 0);
        b.corner(1, 0);
        b.corner(0, 1);
        for (int i = 0; i < 19; i++) {
            b.map.add(i % 3);
        }
        Bench.due("9 the twentieth", b.map.add(2), 20);
        Bench.due("9 the twenty-first", b.map.add(2), -104);
        Bench.due("10 twenty are few", b.map.close(0, 0), -201);
        Bench.due("11 twenty", b.map.where(), 20);
        Bench.due("8 twenty before, also after a refused close", b.map.draw(), 20);
        b.map.add(0);
        b.map.add(1);
        b.map.add(2);
        Bench.due("10 after draw", b.map.close(0, 0), 0);
        Bench.due("9 after close it is the first", b.map.add(1), 1);
        Bench.due("8 one since close", b.map.draw(), 1);
    }

    private static void ringSizes() {
        for (int n = 0; n <= 20; n++) {
            Bench b = new Bench();
            for (int i = 0; i < n; i++) {
                b.map.add(b.corner(i, i * i));
            }
            boolean taken = n >= 3 && n <= 12;
            Bench.due("10 a ring of " + n, b.map.close(0, 0), taken ? 0 : -201);
            Bench.due("11 a ring of " + n, b.map.where(), taken ? 0 : n);
            Bench.due("12 a ring of " + n, b.map.told(0, 2), taken ? n : -101);
            Bench.due("29 a ring of " + n + ", what is drawn", b.map.count(3), taken ? 0 : n);
        }
    }

    private static void layersAndOwners() {
        int[] owners = {0, -1, LEAST, MOST};
        Bench b = new Bench();
        for (int layer = 0; layer < 4; layer++) {
            Bench.due("10 layer " + layer, b.box(layer, owners[layer], 0, 0, 2, 2), layer);
            Bench.due("12 layer " + layer, b.map.told(layer, 0), layer);
            Bench.due("12 owner " + owners[layer], b.map.told(layer, 1), owners[layer]);
            Bench.due("20 layer " + layer, b.locate(layer, 1, 1), layer);
            Bench.due("22 layer " + layer, b.map.walk(layer, 0, 2, 0), layer);
            Bench.due("23 layer " + layer, b.map.hull(layer), 4);
            Bench.due("29 layer " + layer, b.map.count(4 + layer), 1);
            Bench.due("13 the owner " + owners[layer], b.map.give(layer, MOST - layer), owners[layer]);
            Bench.due("13 a new owner", b.map.told(layer, 1), MOST - layer);
        }
    }

    private static void dueCrossed(String what, int where, double... xy) {
        Bench b = new Bench();
        b.draw(xy);
        Bench.due("10 " + what, b.map.close(0, 0), -203);
        Bench.due("11 " + what, b.map.where(), where);
    }

    /** The last edge follows upon edge 0 no less than any other upon the one before. */
    private static void crossedRoundTheEnd() {
        dueCrossed("the last edge back on edge 0, alone", 3, 0, 0, 4, 0, 4, 4, 5, 0);
        dueCrossed("the last edge back on the one before", 103, 0, 0, 2, -4, 4, 0, 8, 0);
        dueCrossed("the last edge and the first but one", 103, 0, 0, 4, 4, 4, -4, 6, 2);
        dueCrossed("the least of several", 2, 0, 0, 4, 4, 4, 0, 0, 4, 2, -1);
        dueCrossed("edges 0 and 4 ahead of 1 and 3", 4, 2, 6, 6, 4, 2, 1, 2, 0, 4, 4, 4, 6);
        dueCrossed("edges 9 and 11 of twelve", 911, 0, 0, 4, 0, 8, 0, 12, 0, 16, 0, 20, 0, 20, 9, 16, 9, 12, 9,
                8, 9, 6, 3, 10, 7);
        dueCrossed("a corner on the last edge", 205, 0, 0, 4, 0, 4, 4, 0, 2, 2, 6, 0, 6);
        Bench b = new Bench();
        b.close(0, 0, 0, 0, 4, 0, 4, 4, 0, SMALL);
        Bench.due("10 close by, but not in line", b.map.count(1), 1);
        Bench.due("10 straight on at the last corner", b.close(1, 0, 0, 0, 4, 0, 4, 4, 2, 2), 1);
        Bench.due("10 straight on at all but three", b.close(2, 0, 0, 0, 1, 0, 2, 0, 2, 1, 2, 2, 1, 1), 2);
    }

    private static void overByLeast() {
        double near = Math.nextUp(4.0), less = Math.nextDown(4.0);
        Bench b = new Bench();
        b.box(0, 0, 0, 0, 4, 4);
        Bench.due("10 over by a last bit", b.box(0, 0, less, 0, 8, 4), -204);
        Bench.due("10 apart by a last bit", b.box(0, 0, near, 0, 8, 4), 1);
        Bench.due("10 into the gap", b.close(0, 0, 4, 0, near, 0, near, 4, 4, 4), 2);
        Bench.due("10 the gap is full", b.close(0, 0, 4, 1, near, 1, 4, 2), -204);
        Bench.due("11 the gap is full", b.map.where(), 2);
        Bench.due("10 all there is", b.close(0, 0, -GREAT, -GREAT, GREAT, -GREAT, GREAT, GREAT, -GREAT, GREAT), -204);
        Bench.due("11 all there is: the least", b.map.where(), 0);
        Bench.due("10 all there is, in a free layer",
                b.close(3, 0, -GREAT, -GREAT, GREAT, -GREAT, GREAT, GREAT, -GREAT, GREAT), 3);
        Bench.due("10 the least within it", b.close(3, 0, 0, 0, SMALL, 0, 0, SMALL), -204);
        Bench.due("11 the least within it", b.map.where(), 3);
    }

    private static void parcelsFull() {
        Bench b = new Bench();
        int[] c = {b.corner(0, 0), b.corner(1, 0), b.corner(0, 1)};
        for (int i = 0; i < 60; i++) {
            for (int corner : c) {
                b.map.add(corner);
            }
            Bench.due("10 number " + i, b.map.close(i % 4, i), i);
            Bench.due("14 none is there", b.map.drop(i), 0);
        }
        for (int corner : c) {
            b.map.add(corner);
        }
        Bench.due("10 no number 60, though none is there", b.map.close(0, 0), -104);
        Bench.due("10 what is drawn stays", b.map.count(3), 3);
        Bench.due("28 the last drop", b.map.undo(), 1);
        Bench.due("12 number 59", b.map.told(59, 1), 59);
        Bench.due("12 no number 60", b.map.told(60, 1), -101);
        Bench.due("29 made", b.map.count(2), 60);
        Bench.due("29 there", b.map.count(1), 1);
        Bench.due("17 a change of a full map", b.map.move(59, 0, c[0]), c[0]);
        Bench.due("13 another", b.map.give(59, 7), 59);
    }

    // ---- parcels

    private static void toldOfTwelve() {
        Bench b = new Bench();
        b.close(0, 9, TWELVE);
        b.close(1, 9, 0, 0, 1, 0, 0, 1);
        Bench.due("12 the first corner of twelve", b.map.told(0, 3), 0);
        Bench.due("12 the last corner of twelve", b.map.told(0, 14), 11);
        Bench.due("12 what is 15, of twelve", b.map.told(0, 15), -102);
        Bench.due("12 the last corner of three", b.map.told(1, 5), 14);
        for (int what = 6; what <= 14; what++) {
            Bench.due("12 what is " + what + ", of three", b.map.told(1, what), -1);
        }
        Bench.due("12 what is 15, of three", b.map.told(1, 15), -102);
        b.map.drop(0);
        Bench.due("12 gone", b.map.told(0, 14), -101);
        b.map.undo();
        Bench.due("12 there again", b.map.told(0, 14), 11);
    }

    private static void dropLast() {
        Bench b = new Bench();
        b.box(0, 0, 0, 0, 1, 1);
        b.box(3, 0, 0, 0, 1, 1);
        Bench.due("14 one is left", b.map.drop(0), 1);
        Bench.due("14 none is left", b.map.drop(1), 0);
        Bench.due("14 gone", b.map.drop(1), -101);
        Bench.due("30 none is left", b.map.digest(), 23);
        Bench.due("23 none is left", b.map.hull(3), -103);
        Bench.due("20 none is left", b.locate(3, 0, 0), -1);
    }

    private static void splitEnds() {
        for (int i = 0; i < 12; i++) {
            for (int j = i + 1; j < 12; j++) {
                Bench b = new Bench();
                b.close(2, 9, TWELVE);
                boolean follow = j == i + 1 || (i == 0 && j == 11);
                Bench.due("15 twelve at " + i + ", " + j, b.map.split(0, i, j, -4), follow ? -205 : 1);
                Bench.due("15 twelve at " + i + ", " + j + ": new", b.map.told(1, 2), follow ? -101 : j - i + 1);
                Bench.due("15 twelve at " + i + ", " + j + ": kept", b.map.told(0, 2), follow ? 12 : 13 - j + i);
                Bench.due("15 twelve at " + i + ", " + j + ": corner 0 kept", b.map.told(0, 3), 0);
                Bench.due("15 twelve at " + i + ", " + j + ": corner 0 new", b.map.told(1, 3),
                        follow ? -101 : aheadOf(i, j));
                Bench.due("15 twelve at " + i + ", " + j + ": owner new", b.map.told(1, 1), follow ? -101 : -4);
                Bench.due("15 twelve at " + i + ", " + j + ": layer new", b.map.told(1, 0), follow ? -101 : 2);
            }
        }
    }

    /** Of the corners i to j of TWELVE the one ahead of the others. */
    private static int aheadOf(int i, int j) {
        int best = i;
        for (int k = i + 1; k <= j; k++) {
            boolean less = TWELVE[2 * k] < TWELVE[2 * best]
                    || (TWELVE[2 * k] == TWELVE[2 * best] && TWELVE[2 * k + 1] < TWELVE[2 * best + 1]);
            best = less ? k : best;
        }
        return best;
    }

    private static void splitLeast() {
        Bench b = new Bench();
        b.close(0, 0, 0, 0, 4, 0, 0, 4);
        Bench.due("15 three at 0, 1", b.map.split(0, 0, 1, 0), -205);
        Bench.due("15 three at 1, 2", b.map.split(0, 1, 2, 0), -205);
        Bench.due("15 three at 0, 2", b.map.split(0, 0, 2, 0), -205);
        Bench.due("15 three at 0, 3", b.map.split(0, 0, 3, 0), -102);
        // Past an inner corner: a bit inside of the land, through the corner, a bit outside of it.
        double[] dents = {Math.nextDown(2.0), 2, Math.nextUp(2.0)};
        int[] due = {1, -205, -205};
        for (int i = 0; i < 3; i++) {
            Bench c = new Bench();
            c.close(0, 0, 0, 0, 2, dents[i], 4, 4, 0, 9);
            Bench.due("15 past a corner at " + dents[i], c.map.split(0, 0, 2, 0), due[i]);
            Bench d = new Bench();
            d.close(0, 0, 0, 0, 8, 0, 8, 2, 8, 6, 4, dents[2 - i], 0, 6, 0, 2);
            Bench.due("15 past a tip at " + dents[2 - i], d.map.split(0, 2, 6, 0), due[i]);
        }
    }

    private static void joinRoundTheEnd() {
        // The common edges of p are its last one and edge 0, with corner 0 between them.
        Bench b = new Bench();
        b.close(0, 1, 0, 2, 4, 0, 8, 2, 4, 4);
        b.close(0, 2, 0, 2, 4, 4, 0, 9, -9, 2, 0, -9, 4, 0);
        Bench.due("16 round corner 0 of p", b.map.join(0, 1), 6);
        b.dueRing("16 round corner 0 of p", 0, -9, 2, 0, -9, 4, 0, 8, 2, 4, 4, 0, 9);
        b.map.undo();
        Bench.due("16 round corner 0 of q", b.map.join(1, 0), 6);
        b.dueRing("16 round corner 0 of q", 1, -9, 2, 0, -9, 4, 0, 8, 2, 4, 4, 0, 9);
        Bench.due("16 owner of p", b.map.told(1, 1), 2);
        // One common edge, which is the last of p.
        Bench c = new Bench();
        c.close(0, 1, 0, 0, 4, 0, 0, 4);
        c.close(0, 2, 0, 0, 0, 4, -4, 0);
        Bench.due("16 the last edge", c.map.join(0, 1), 4);
        c.dueRing("16 the last edge", 0, -4, 0, 0, 0, 4, 0, 0, 4);
        // Behind the last edge of p begins corner 0: (0, 0), (4, 0), (0, 4), and the rest of q.
        Bench d = new Bench();
        d.close(0, 1, 0, 0, 4, 0, 0, 4);
        d.close(0, 2, 0, 0, 0, 4, 1, 8, 5, 5, 4, 0, 6, 9, -9, 9);
        Bench.due("16 twice, behind the last edge", d.map.join(0, 1), -202);
        Bench.due("16 twice, behind the last edge: where", d.map.where(), 5);
        // All edges of p but one are common, the most there can be.
        Bench e = new Bench();
        e.close(0, 1, 0, 0, 4, -1, 8, 0, 4, 6);
        e.close(0, 2, 0, 0, 0, -9, 9, -9, 9, 9, 4, 6, 8, 0, 4, -1);
        Bench.due("16 all edges but one", e.map.join(0, 1), 5);
        e.dueRing("16 all edges but one", 0, 0, -9, 9, -9, 9, 9, 4, 6, 0, 0);
    }

    private static void moveEnds() {
        Bench b = new Bench();
        b.close(0, 0, TWELVE);
        int out = b.corner(-20, 0), last = b.corner(-11, 8);
        Bench.due("17 the first place of twelve", b.map.move(0, 0, out), 0);
        Bench.due("17 the last place of twelve", b.map.move(0, 11, last), 11);
        Bench.due("17 no place 12 of twelve", b.map.move(0, 12, out), -102);
        Bench.due("17 the first one now", b.map.told(0, 3), out);
        Bench.due("17 the last one now", b.map.told(0, 14), last);
        Bench c = new Bench();
        c.close(0, 0, 0, 0, 4, 0, 0, 4);
        Bench.due("17 no place 3 of three", c.map.move(0, 3, 0), -102);
        Bench.due("17 to the very line", c.map.move(0, 2, c.corner(2, 0)), -203);
        Bench.due("17 to the very line: where", c.map.where(), 1);
        Bench.due("17 to the least above it", c.map.move(0, 2, c.corner(2, SMALL)), 2);
        Bench.due("17 to the least below it", c.map.move(0, 2, c.corner(2, -SMALL)), c.corner(2, SMALL));
        c.dueRing("17 to the least below it", 0, 0, 0, 2, -SMALL, 4, 0);
        Bench d = new Bench();
        d.box(0, 0, 0, 0, 4, 4);
        d.box(0, 0, 8, 0, 12, 4);
        Bench.due("17 up to the other", d.map.move(0, 2, d.corner(8, 4)), 2);
        Bench.due("17 over it by a last bit", d.map.move(0, 2, d.corner(Math.nextUp(8.0), 4)), -204);
        Bench.due("17 over it by a last bit: where", d.map.where(), 1);
    }

    private static void neighbours() {
        Bench b = new Bench();
        b.box(0, 0, 0, 0, 59, 1);
        for (int i = 0; i < 59; i++) {
            b.close(0, 0, i, 0, i, -1, i + 1, 0);
        }
        Bench.due("19 the first of 59", b.map.neighbour(0, 0), 1);
        Bench.due("19 the last of 59", b.map.neighbour(0, 58), 59);
        Bench.due("19 no more than 59", b.map.neighbour(0, 59), -1);
        Bench.due("19 the least k", b.map.neighbour(0, LEAST), -1);
        Bench.due("19 the greatest k", b.map.neighbour(0, MOST), -1);
        Bench.due("19 k is -1", b.map.neighbour(0, -1), -1);
        Bench.due("18 with the last", b.map.border(0, 59), 1);
        Bench.due("18 a corner in common", b.map.border(1, 2), 0);
        Bench.due("19 of the last", b.map.neighbour(59, 0), 0);
        Bench.due("19 of the last, no more", b.map.neighbour(59, 1), -1);
        Bench c = new Bench();
        c.box(0, 0, 0, 0, 4, 4);
        c.box(0, 0, 4, Math.nextDown(4.0), 8, 8);
        c.box(0, 0, Math.nextUp(4.0), 0, 8, 2);
        Bench.due("18 by the least part", c.map.border(0, 1), 1);
        Bench.due("18 apart by a last bit", c.map.border(0, 2), 0);
    }

    // ---- finding

    private static void located() {
        Bench b = new Bench();
        b.box(0, 0, SMALL, SMALL, GREAT, GREAT);
        Bench.due("20 the least corner", b.locate(0, SMALL, SMALL), 0);
        Bench.due("20 the greatest corner", b.locate(0, GREAT, GREAT), 0);
        Bench.due("20 ahead of the least", b.locate(0, 0, SMALL), -1);
        Bench.due("20 below the least", b.locate(0, SMALL, 0), -1);
        Bench.due("20 a bit inside", b.locate(0, Math.nextUp(SMALL), Math.nextUp(SMALL)), 0);
        Bench.due("21 a bit inside", b.map.edge(), -1);
        Bench.due("20 a bit inside of the greatest", b.locate(0, Math.nextDown(GREAT), Math.nextDown(GREAT)), 0);
        Bench.due("21 a bit inside of the greatest", b.map.edge(), -1);
        Bench c = new Bench();
        c.box(0, 0, -4, -4, 0, 0);
        c.box(0, 0, 0, 0, 4, 4);
        c.box(0, 0, -4, 0, 0, 4);
        c.box(0, 0, 0, -4, 4, 0);
        Bench.due("20 where four meet: the least", c.locate(0, -0.0, 0), 0);
        c.map.drop(0);
        Bench.due("20 where three meet: the least", c.locate(0, 0, -0.0), 1);
        c.map.drop(1);
        c.map.drop(2);
        Bench.due("20 the last one", c.locate(0, 0, 0), 3);
        Bench.due("21 the last one", c.map.edge(), 2);
    }

    private static void edges() {
        Bench b = new Bench();
        b.close(0, 0, TWELVE);
        for (int i = 0; i < 12; i++) {
            int j = (i + 1) % 12;
            b.locate(0, (TWELVE[2 * i] + TWELVE[2 * j]) / 2, (TWELVE[2 * i + 1] + TWELVE[2 * j + 1]) / 2);
            Bench.due("21 the middle of edge " + i, b.map.edge(), i);
            b.locate(0, TWELVE[2 * i], TWELVE[2 * i + 1]);
            Bench.due("21 corner " + i + ": the least", b.map.edge(), i == 0 ? 0 : i - 1);
        }
        b.locate(0, 0, 0);
        Bench.due("21 inside", b.map.edge(), -1);
    }

    private static void walked() {
        Bench b = new Bench();
        for (int i = 0; i < 60; i++) {
            b.close(0, 0, i, -1, i + 1, 0, i, 1);
        }
        int from = b.corner(-1, 0), to = b.corner(61, 0), end = b.corner(60, 0), first = b.corner(0, 0);
        Bench.due("22 the first of 60", b.map.walk(0, from, to, 0), 0);
        Bench.due("22 the last of 60", b.map.walk(0, to, from, 59), 59);
        Bench.due("22 no more than 60", b.map.walk(0, from, to, 60), -1);
        Bench.due("22 the least k", b.map.walk(0, from, to, LEAST), -1);
        Bench.due("22 the greatest k", b.map.walk(0, from, to, MOST), -1);
        Bench.due("22 k is -1", b.map.walk(0, from, to, -1), -1);
        Bench.due("22 up to the first", b.map.walk(0, from, first, 0), -1);
        Bench.due("22 from behind the last", b.map.walk(0, end, to, 0), -1);
        Bench.due("22 an empty layer", b.map.walk(3, from, to, 0), -1);
        Bench c = new Bench();
        c.box(0, 0, 0, 0, 4, 4);
        int low = c.corner(-1, 4), in = c.corner(5, Math.nextDown(4.0)), over = c.corner(5, Math.nextUp(4.0));
        int flat = c.corner(5, 4);
        Bench.due("22 along the upper edge", c.map.walk(0, low, flat, 0), -1);
        Bench.due("22 a bit below it", c.map.walk(0, low, in, 0), 0);
        Bench.due("22 a bit above it", c.map.walk(0, low, over, 0), -1);
    }

    private static void hulls() {
        Bench b = new Bench();
        b.close(0, 0, 0, 0, SMALL, 0, 0, SMALL);
        Bench.due("23 the least ring", b.map.hull(0), 3);
        Bench.due("24 the least k", b.map.hullAt(LEAST), -1);
        Bench.due("24 the greatest k", b.map.hullAt(MOST), -1);
        Bench.due("24 k is -1", b.map.hullAt(-1), -1);
        Bench.due("24 k is 0", b.map.hullAt(0), 0);
        Bench.due("24 the last k", b.map.hullAt(2), 2);
        Bench.due("24 no more", b.map.hullAt(3), -1);
        b.close(1, 0, TWELVE);
        Bench.due("23 twelve", b.map.hull(1), 12);
        Bench.due("24 the last of twelve", b.map.hullAt(11), b.map.told(1, 14));
        Bench.due("24 no more than twelve", b.map.hullAt(12), -1);
        Bench.due("23 three again", b.map.hull(0), 3);
        Bench.due("24 no more than three", b.map.hullAt(3), -1);
        // In line, but for a last bit, on each of the four sides.
        Bench c = new Bench();
        double up = Math.nextUp(8.0), down = Math.nextDown(-8.0);
        c.close(0, 0, -8, -8, 0, down, 8, -8, up, 0, 8, 8, 0, up, -8, 8, down, 0);
        Bench.due("23 out by a last bit", c.map.hull(0), 8);
        Bench.due("24 out by a last bit: ahead of all", c.map.hullAt(0), c.corner(down, 0));
        c.close(1, 0, -8, -8, 0, -8, 8, -8, 8, 0, 8, 8, 0, 8, -8, 8, -8, 0);
        Bench.due("23 in line", c.map.hull(1), 4);
        c.close(2, 0, -8, -8, 0, Math.nextUp(-8.0), 8, -8, 8, 8);
        Bench.due("23 in by a last bit", c.map.hull(2), 3);
    }

    // ---- areas

    private static void twiceEnds() {
        Bench b = new Bench();
        b.close(0, 0, 0, 0, 1, 0, 0, 1);
        Bench.due("25 just one", b.map.twice(0), 1);
        b.close(1, 0, 0, 0, 1, 0, 0, Math.nextDown(1.0));
        Bench.due("25 a bit below one", b.map.twice(1), 0);
        b.close(2, 0, 0, 0, 1, 0, 0, Math.nextUp(1.0));
        Bench.due("25 a bit above one", b.map.twice(2), 1);
        b.close(3, 0, -GREAT, -GREAT, GREAT, -GREAT, GREAT, GREAT, -GREAT, Math.nextDown(GREAT));
        // 2^29 times 2^-25 below the greatest there is.
        Bench.due("25 a bit below the greatest", b.map.twice(3), (1L << 59) - 16);
        Bench c = new Bench();
        c.close(0, 0, -1, -1, -1, -2, 0, -1);
        Bench.due("25 below 0 on both axes", c.map.twice(0), 1);
        c.close(1, 0, -1, -1, Math.nextUp(-2.0), -1, -1, -2);
        Bench.due("25 below 0, a bit below one", c.map.twice(1), 0);
    }

    private static void compareEnds() {
        Bench b = new Bench();
        b.close(0, 0, 0, 0, SMALL, 0, 0, SMALL);
        b.close(1, 0, -GREAT, -GREAT, GREAT, -GREAT, GREAT, GREAT, -GREAT, GREAT);
        b.close(2, 0, 0, 0, SMALL, 0, 0, Math.nextUp(SMALL));
        b.close(3, 0, -GREAT, -GREAT, GREAT, -GREAT, GREAT, GREAT, -GREAT, Math.nextDown(GREAT));
        Bench.due("26 the least against the greatest", b.map.compare(0, 1), -1);
        Bench.due("26 the greatest against the least", b.map.compare(1, 0), 1);
        Bench.due("26 the least by a last bit", b.map.compare(0, 2), -1);
        Bench.due("26 the least by a last bit, turned", b.map.compare(2, 0), 1);
        Bench.due("26 the greatest by a last bit", b.map.compare(1, 3), 1);
        Bench.due("26 the greatest by a last bit, turned", b.map.compare(3, 1), -1);
        Bench.due("26 itself", b.map.compare(1, 1), 0);
    }

    private static void quotaEnds() {
        Bench b = new Bench();
        b.close(0, 0, 0, 0, GREAT, 0, GREAT, GREAT, 0, GREAT);
        b.close(0, 0, 0, 0, -SMALL, 0, 0, -SMALL);
        Bench.due("27 nearly all of 0", b.map.quota(0, 0), 0);
        Bench.due("27 nearly nothing of 0", b.map.quota(1, 0), 0);
        Bench.due("27 nearly all of 1", b.map.quota(0, 1), 1);
        Bench.due("27 nearly nothing of 1", b.map.quota(1, 1), 0);
        Bench.due("27 nearly all of 1000", b.map.quota(0, 1000), 1000);
        Bench.due("27 nearly nothing of 1000", b.map.quota(1, 1000), 0);
        b.close(3, 0, 0, 0, SMALL, 0, 0, SMALL);
        Bench.due("27 the least, alone, of 1000", b.map.quota(2, 1000), 1000);
        Bench.due("27 the least, alone, of 0", b.map.quota(2, 0), 0);
        // Halves: of an odd number the lesser number has one more.
        Bench c = new Bench();
        c.box(0, 0, 0, 0, 1, 1);
        c.box(0, 0, 1, 0, 2, 1);
        Bench.due("27 half of 1, first", c.map.quota(0, 1), 1);
        Bench.due("27 half of 1, second", c.map.quota(1, 1), 0);
        Bench.due("27 half of 999, first", c.map.quota(0, 999), 500);
        Bench.due("27 half of 999, second", c.map.quota(1, 999), 499);
        c.map.drop(0);
        Bench.due("27 all of 999, the other gone", c.map.quota(1, 999), 999);
    }

    private static void quotaOfSixty() {
        Bench b = new Bench();
        for (int i = 0; i < 60; i++) {
            b.close(0, 0, i, 0, i + 1, 0, i + 1, 1);
        }
        int[][] due = {{0, 0, 0}, {1, 1, 0}, {59, 1, 0}, {60, 1, 1}, {61, 2, 1}, {1000, 17, 16}};
        for (int[] row : due) {
            Bench.due("27 sixty, the first of " + row[0], b.map.quota(0, row[0]), row[1]);
            Bench.due("27 sixty, the last of " + row[0], b.map.quota(59, row[0]), row[2]);
        }
        // 1000 is 60 times 16 and 40: the lesser numbers have one more.
        Bench.due("27 sixty, the last with one more", b.map.quota(39, 1000), 17);
        Bench.due("27 sixty, the first without", b.map.quota(40, 1000), 16);
    }

    // ---- what is told

    private static void undoEnds() {
        Bench b = new Bench();
        b.box(0, 1, 0, 0, 4, 4);
        Bench.due("28 the first close", b.map.undo(), 1);
        Bench.due("28 none is there", b.map.count(1), 0);
        Bench.due("28 as before any", b.map.digest(), 23);
        Bench.due("28 but one was made", b.map.count(2), 1);
        Bench.due("28 not again", b.map.undo(), -103);
        Bench.due("28 the next number", b.box(0, 1, 0, 0, 4, 4), 1);
        Bench.due("28 after another change again", b.map.undo(), 1);
        b.box(0, 1, 0, 0, 4, 4);
        b.map.split(2, 0, 2, 5);
        b.map.drop(2);
        b.map.undo();
        Bench.due("28 only the drop is undone", b.map.told(2, 2), 3);
        Bench.due("28 the split is not", b.map.told(3, 2), 3);
        b.map.join(2, 3);
        b.map.undo();
        Bench.due("28 p as before", b.map.told(2, 2), 3);
        Bench.due("28 q as before", b.map.told(3, 2), 3);
        Bench.due("28 the owner of q as before", b.map.told(3, 1), 5);
        Bench.due("28 and they can be joined", b.map.join(3, 2), 4);
        b.map.close(0, 0);
        Bench.due("28 where, ahead of undo", b.map.where(), 0);
        b.map.add(0);
        b.map.close(0, 0);
        b.map.undo();
        Bench.due("28 where stays", b.map.where(), 1);
        Bench.due("28 what is drawn stays", b.map.count(3), 1);
    }

    private static void counts() {
        Bench b = new Bench();
        for (int i = 0; i < 60; i++) {
            b.close(3, 0, i, 0, i + 1, 0, i + 1, 1);
        }
        for (int i = 0; b.map.count(0) < 200; i++) {
            b.corner(i, 9);
        }
        for (int i = 0; i < 20; i++) {
            b.map.add(i);
        }
        int[] want = {200, 60, 60, 20, 0, 0, 0, 60};
        for (int what = 0; what < 8; what++) {
            Bench.due("29 full, " + what, b.map.count(what), want[what]);
        }
        Bench.due("29 full, -1", b.map.count(-1), -102);
        Bench.due("29 full, 8", b.map.count(8), -102);
    }

    private static void digestWraps() {
        Bench b = new Bench();
        long h = 23;
        for (int i = 0; i < 20; i++) {
            int owner = i % 2 == 0 ? LEAST + i : MOST - i;
            b.close(3, owner, i, 0, i + 1, 0, i + 1, 1);
            for (int it : new int[] {i, 3, owner, 3, b.corner(i, 0), b.corner(i + 1, 0), b.corner(i + 1, 1)}) {
                h = 31 * h + it;
            }
            Bench.due("30 after " + i, b.map.digest(), h);
        }
        b.map.give(19, 0);
        Bench.due("30 another owner", b.map.digest() == h ? 1 : 0, 0);
        b.map.undo();
        Bench.due("30 the owner again", b.map.digest(), h);
    }

    /** An object is used for at most 512 calls: the last of them is answered like any other. */
    private static void lastCall() {
        ParcelMap map = new ParcelMap();
        for (int i = 0; i < 200; i++) {
            Bench.due("call " + i, map.corner(Bench.bits(i), Bench.bits(i * i)), i);
        }
        for (int i = 0; i < 60; i++) {
            map.add(3 * i);
            map.add(3 * i + 1);
            map.add(3 * i + 2);
            Bench.due("call " + (203 + 4 * i), map.close(1, i), i);
        }
        for (int i = 440; i < 511; i++) {
            Bench.due("call " + i, map.told(i % 60, 1), i % 60);
        }
        Bench.due("call 511", map.hull(1), 180);
    }
}
