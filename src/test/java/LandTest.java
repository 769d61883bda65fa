/**
 * Lands that lie upon one another by one edge or in one quarter alone, segments that come in by one
 * edge or corner alone, and numbers at their edges in x as well as in y: by the promises' numbers.
 */
public final class LandTest {
    private static final double SMALL = 0x1p-20, GREAT = 0x1p28;

    /** A ring of twelve round about (0, 0), turning left, with a corner 0 ahead of all others. */
    private static final double[] TWELVE = {-12, 0, -10, -6, -6, -10, 0, -12, 6, -10, 10, -6,
        12, 0, 10, 6, 6, 10, 0, 12, -6, 10, -10, 6};

    public static void main(String[] args) {
        begunAtTheOneAhead();
        overByOneEdge();
        overInEachQuarter();
        likeLand();
        touching();
        filledNotch();
        walkedInByEach();
        walkedAlongEach();
        areasByX();
        quotaOfOne();
        quotaOfThree();
        moveTurnsRound();
        moveToLikePlace();
        faultsOfAnotherLayer();
        Bench.end();
    }

    private static void dueOver(String what, double[] there, double[] comes) {
        Bench b = new Bench();
        Bench.due("10 " + what + ": the first", b.close(1, 0, there), 0);
        Bench.due("10 " + what, b.close(1, 0, comes), -204);
        Bench.due("11 " + what, b.map.where(), 0);
        Bench c = new Bench();
        Bench.due("10 " + what + ", turned: the first", c.close(1, 0, comes), 0);
        Bench.due("10 " + what + ", turned", c.close(1, 0, there), -204);
        Bench.due("11 " + what + ", turned", c.map.where(), 0);
    }

    private static void dueBeside(String what, int border, double[] there, double[] comes) {
        Bench b = new Bench();
        Bench.due("10 " + what + ": the first", b.close(1, 0, there), 0);
        Bench.due("10 " + what, b.close(1, 0, comes), 1);
        Bench.due("18 " + what, b.map.border(0, 1), border);
        Bench.due("18 " + what + ", turned", b.map.border(1, 0), border);
        Bench.due("19 " + what, b.map.neighbour(0, 0), border > 0 ? 1 : -1);
        Bench c = new Bench();
        Bench.due("10 " + what + ", turned: the first", c.close(1, 0, comes), 0);
        Bench.due("10 " + what + ", turned", c.close(1, 0, there), 1);
    }

    private static double[] box(double x, double y, double x2, double y2) {
        return new double[] {x, y, x2, y, x2, y2, x, y2};
    }

    /** Any corner may be told first, either way round: the ring that stands is the same. */
    private static void begunAtTheOneAhead() {
        for (int way = -1; way <= 1; way += 2) {
            for (int from = 0; from < 12; from++) {
                Bench b = new Bench();
                b.map.draw();
                for (int i = 0; i < 12; i++) {
                    int at = Math.floorMod(from + way * i, 12);
                    b.map.add(b.corner(TWELVE[2 * at], TWELVE[2 * at + 1]));
                }
                b.map.close(0, 0);
                b.dueRing("10 from corner " + from + ", way " + way, 0, TWELVE);
            }
        }
        Bench c = new Bench();
        c.close(0, 0, 4, 4, 0, 4, 0, 0, 4, 0);
        c.dueRing("10 of like x the least y", 0, 0, 0, 4, 0, 4, 4, 0, 4);
        c.close(1, 0, 0, 4, 0, -0.0, 4, 0);
        c.dueRing("10 of like x the least y, turned", 1, 0, 0, 4, 0, 0, 4);
        c.close(2, 0, 5, 5, 0, SMALL, 0, -SMALL, 5, -1);
        c.dueRing("10 below 0 is less", 2, 0, -SMALL, 5, -1, 5, 5, 0, SMALL);
    }

    private static void overByOneEdge() {
        double[] all = box(0, 0, 4, 4);
        dueOver("the half above edge 0", all, new double[] {0, 0, 4, 4, 0, 4});
        dueOver("the half below the last edge", all, new double[] {0, 0, 4, 0, 4, 4});
        dueOver("the half left of edge 1", all, new double[] {0, 0, 4, 0, 0, 4});
        dueOver("the half right of the middle", all, box(2, 0, 4, 4));
        dueOver("a roof below the upper edge", all, new double[] {0, 4, 2, 2, 4, 4});
        dueOver("an edge longer at both ends", all, new double[] {-1, 0, 5, 0, 2, 1});
        dueOver("from corner to corner, by an edge behind edge 0", all, new double[] {-1, 6, 0, 4, 4, 0, 7, 7});
        dueOver("through two corners", all, new double[] {-1, -1, 5, 5, -1, 5});
        dueOver("through one corner alone", all, new double[] {3, 5, 5, 3, 3, 3});
        dueOver("a cross without a corner inside", box(-1, 1, 5, 3), box(1, -1, 3, 5));
        dueOver("within, without touching", all, box(1, 1, 3, 3));
        dueOver("within, by a corner", all, new double[] {0, 0, 2, 1, 1, 2});
    }

    private static void overInEachQuarter() {
        for (int x = -1; x <= 1; x++) {
            for (int y = -1; y <= 1; y++) {
                double dx = 100 * x, dy = 100 * y;
                String where = " at " + dx + ", " + dy;
                double[] one = box(dx - 2, dy - 2, dx + 2, dy + 2);
                dueOver("to the right and up" + where, one, box(dx + 1, dy + 1, dx + 9, dy + 9));
                dueOver("to the left and up" + where, one, box(dx - 9, dy + 1, dx - 1, dy + 9));
                double[] diamond = {dx - 4, dy, dx, dy - 4, dx + 4, dy, dx, dy + 4};
                dueOver("over a lower tip" + where, diamond, box(dx - 4, dy - 9, dx + 4, dy - 3));
                dueOver("over an upper tip" + where, diamond, box(dx - 4, dy + 3, dx + 4, dy + 9));
                dueOver("over a left tip" + where, diamond, box(dx - 9, dy - 4, dx - 3, dy + 4));
                dueOver("over a right tip" + where, diamond, box(dx + 3, dy - 4, dx + 9, dy + 4));
                dueBeside("below a lower tip" + where, 0, diamond, box(dx - 4, dy - 9, dx + 4, dy - 4));
                dueBeside("right of a right tip" + where, 0, diamond, box(dx + 4, dy - 4, dx + 9, dy + 4));
                dueBeside("to the right" + where, 1, one, box(dx + 2, dy - 2, dx + 9, dy + 2));
                dueBeside("above" + where, 1, one, box(dx - 2, dy + 2, dx + 2, dy + 9));
                dueBeside("by a corner" + where, 0, one, box(dx + 2, dy + 2, dx + 9, dy + 9));
                dueBeside("apart" + where, 0, one, box(dx + 3, dy + 3, dx + 9, dy + 9));
            }
        }
    }

    private static void likeLand() {
        double[] three = {0, 0, 4, 0, 0, 4}, four = box(0, 0, 4, 4);
        dueOver("the same three", three, three);
        dueOver("the same three, turned round", three, new double[] {0, 4, 4, 0, 0, 0});
        dueOver("one more corner in line on edge 0", three, new double[] {0, 0, 1, 0, 4, 0, 0, 4});
        dueOver("one more corner in line on the last edge", three, new double[] {0, 0, 4, 0, 0, 4, 0, 3});
        dueOver("other corners in line on each edge", new double[] {0, 0, 2, 0, 4, 0, 4, 2, 4, 4, 2, 4, 0, 4, 0, 2},
                new double[] {0, 0, 1, 0, 4, 0, 4, 1, 4, 4, 1, 4, 0, 4, 0, 1});
        dueOver("the same four", four, four);
        dueOver("the same twelve", TWELVE, TWELVE);
        dueOver("the last edge upright", new double[] {0, 0, 4, 2, 0, 4}, new double[] {0, 0, 4, 2, 0, 4, 0, 1});
    }

    private static void touching() {
        double[] four = box(0, 0, 4, 4);
        dueBeside("a part of an edge", 1, four, box(4, 1, 8, 3));
        dueBeside("parts of two edges", 2, four, new double[] {-4, -4, 4, -4, 4, 0, 0, 0, 0, 4, -4, 4});
        dueBeside("a corner on an edge", 0, four, new double[] {4, 2, 8, 0, 8, 4});
        dueBeside("one edge of it, in two edges", 2, four, new double[] {4, 0, 8, 2, 4, 4, 4, 2});
        dueBeside("apart by a last bit", 0, four, box(Math.nextUp(4.0), 0, 8, 4));
        dueBeside("frames over one another, lands not", 0, new double[] {0, 0, 8, 0, 0, 8},
                new double[] {8, Math.nextUp(0.5), 8, 8, Math.nextUp(0.5), 8});
        dueBeside("frames over one another, an edge in common", 1, new double[] {0, 0, 8, 0, 0, 8},
                new double[] {8, 0, 8, 8, 0, 8});
    }

    /** Edge 0 of the one lies on an edge of the other that goes the other way, in a deep notch. */
    private static void filledNotch() {
        double[] round = {-2, 0, 8, 0, 4, 4, 0, 4, 6, 6, -2, 8}, notch = {0, 4, 4, 4, 6, 6};
        dueBeside("a filled notch", 2, round, notch);
        Bench b = new Bench();
        b.close(0, 3, round);
        b.close(0, 4, notch);
        Bench.due("16 a filled notch", b.map.join(0, 1), 5);
        b.dueRing("16 a filled notch", 0, -2, 0, 8, 0, 4, 4, 6, 6, -2, 8);
    }

    private static void walkedInByEach() {
        Bench b = new Bench();
        b.close(0, 0, TWELVE);
        int middle = b.corner(0, 0);
        for (int i = 0; i < 12; i++) {
            int j = (i + 1) % 12;
            double x = TWELVE[2 * i] + TWELVE[2 * j], y = TWELVE[2 * i + 1] + TWELVE[2 * j + 1];
            int out = b.corner(x, y), on = b.corner(x / 2, y / 2), far = b.corner(-x, -y);
            int end = b.corner(2 * TWELVE[2 * i], 2 * TWELVE[2 * i + 1]);
            Bench.due("22 in by edge " + i, b.map.walk(0, out, middle, 0), 0);
            Bench.due("22 out by edge " + i, b.map.walk(0, middle, out, 0), 0);
            Bench.due("22 right through from edge " + i, b.map.walk(0, out, far, 0), 0);
            Bench.due("22 up to edge " + i, b.map.walk(0, out, on, 0), -1);
            Bench.due("22 away from edge " + i, b.map.walk(0, on, out, 0), -1);
            Bench.due("22 from edge " + i, b.map.walk(0, on, middle, 0), 0);
            Bench.due("22 to edge " + i, b.map.walk(0, middle, on, 0), 0);
            Bench.due("22 in by corner " + i, b.map.walk(0, end, middle, 0), 0);
            Bench.due("22 out by corner " + i, b.map.walk(0, middle, end, 0), 0);
            Bench.due("22 up to corner " + i, b.map.walk(0, end, b.map.told(0, 3 + i), 0), -1);
            Bench.due("22 away from corner " + i, b.map.walk(0, b.map.told(0, 3 + i), end, 0), -1);
        }
    }

    private static void walkedAlongEach() {
        Bench b = new Bench();
        b.close(0, 0, TWELVE);
        for (int i = 0; i < 12; i++) {
            int here = b.map.told(0, 3 + i), next = b.map.told(0, 3 + (i + 1) % 12), after = b.map.told(0, 3 + (i + 2) % 12);
            Bench.due("22 along edge " + i, b.map.walk(0, here, next, 0), -1);
            Bench.due("22 back along edge " + i, b.map.walk(0, next, here, 0), -1);
            Bench.due("22 across corner " + (i + 1) % 12, b.map.walk(0, here, after, 0), 0);
        }
    }

    private static void areasByX() {
        Bench b = new Bench();
        b.close(0, 0, 0, 0, SMALL, 0, 0, SMALL);
        b.close(1, 0, 0, 0, Math.nextUp(SMALL), 0, 0, SMALL);
        b.close(2, 0, 0, 0, SMALL, 0, 0, Math.nextUp(SMALL));
        b.close(3, 0, 0, 0, -Math.nextUp(SMALL), 0, 0, -SMALL);
        Bench.due("26 more by a last bit of x", b.map.compare(0, 1), -1);
        Bench.due("26 more by a last bit of x, turned", b.map.compare(1, 0), 1);
        Bench.due("26 as much by x as by y", b.map.compare(1, 2), 0);
        Bench.due("26 as much below 0", b.map.compare(1, 3), 0);
        Bench c = new Bench();
        c.close(0, 0, box(-GREAT, -GREAT, GREAT, GREAT));
        c.close(1, 0, -GREAT, -GREAT, GREAT, -GREAT, GREAT, GREAT, Math.nextUp(-GREAT), GREAT);
        c.close(2, 0, 0, 0, 1, 0, Math.nextDown(1.0), 1, 0, 1);
        Bench.due("25 the greatest", c.map.twice(0), 1L << 59);
        Bench.due("25 the greatest, less a bit of x", c.map.twice(1), (1L << 59) - 16);
        Bench.due("26 the greatest, less a bit of x", c.map.compare(1, 0), -1);
        Bench.due("25 two, less a bit of x", c.map.twice(2), 1);
    }

    private static void quotaOfOne() {
        Bench b = new Bench();
        b.close(2, 0, 0, 0, 3, 0, 0, 0.1);
        for (int n = 0; n <= 1000; n++) {
            Bench.due("27 alone, of " + n, b.map.quota(0, n), n);
        }
    }

    /** 1, 2 and 4 parts of 7: each share cut, then the rests in order. */
    private static void quotaOfThree() {
        Bench b = new Bench();
        b.close(0, 0, box(0, 0, 1, 1));
        b.close(0, 0, box(1, 0, 3, 1));
        b.close(0, 0, box(3, 0, 7, 1));
        b.close(1, 0, box(0, 0, 100, 100));
        for (int n = 0; n <= 1000; n++) {
            int[] due = new int[3];
            int left = n;
            for (int i = 0; i < 3; i++) {
                due[i] = (n << i) / 7;
                left -= due[i];
            }
            int best = 0;
            for (; left > 0; left--) {
                int[] rest = new int[3];
                for (int i = 0; i < 3; i++) {
                    rest[i] = (n << i) - 7 * due[i];
                    best = rest[i] > rest[best] ? i : best;
                }
                due[best]++;
                best = 0;
            }
            for (int i = 0; i < 3; i++) {
                Bench.due("27 part " + i + " of " + n, b.map.quota(i, n), due[i]);
            }
        }
    }

    private static void moveTurnsRound() {
        Bench b = new Bench();
        b.close(0, 0, 0, 0, 4, 0, 0, 4);
        int low = b.corner(1, -4), ahead = b.corner(-4, -1);
        Bench.due("17 to the other side", b.map.move(0, 2, low), 2);
        b.dueRing("17 turned round", 0, 0, 0, 1, -4, 4, 0);
        Bench.due("17 ahead of all others", b.map.move(0, 2, ahead), 1);
        b.dueRing("17 begun at the one ahead", 0, -4, -1, 1, -4, 0, 0);
        Bench.due("28 one move", b.map.undo(), 1);
        b.dueRing("28 as it stood", 0, 0, 0, 1, -4, 4, 0);
    }

    private static void moveToLikePlace() {
        Bench b = new Bench();
        b.close(0, 0, 0, 0, 4, 0, 0, 4);
        b.map.give(0, 8);
        Bench.due("17 to where it is", b.map.move(0, 1, 1), 1);
        b.dueRing("17 to where it is", 0, 0, 0, 4, 0, 0, 4);
        Bench.due("28 that is a change", b.map.undo(), 1);
        Bench.due("28 so the owner is not undone", b.map.told(0, 1), 8);
        Bench.due("13 the owner it has", b.map.give(0, 8), 8);
        Bench.due("28 that is a change too", b.map.undo(), 1);
        Bench.due("28 not twice", b.map.undo(), -103);
    }

    /** Parcels of other layers, and those that are gone, are in nobody's way. */
    private static void faultsOfAnotherLayer() {
        Bench b = new Bench();
        b.close(0, 0, box(0, 0, 4, 4));
        b.close(1, 0, box(0, 0, 4, 4));
        b.close(0, 0, box(4, 0, 8, 4));
        Bench.due("17 over one of the layer", b.map.move(0, 2, b.corner(6, 3)), -204);
        Bench.due("17 over one of the layer: where", b.map.where(), 2);
        Bench.due("17 over one of another layer", b.map.move(1, 2, b.corner(6, 3)), b.corner(4, 4));
        b.map.drop(2);
        Bench.due("17 over one that is gone", b.map.move(0, 2, b.corner(6, 3)), b.corner(4, 4));
        Bench.due("10 over that one", b.close(0, 0, 5, 1, 7, 1, 5, 2), -204);
        Bench.due("11 over that one", b.map.where(), 0);
        Bench.due("18 of two layers", b.map.border(0, 1), 4);
        Bench.due("19 not of two layers", b.map.neighbour(0, 0), -1);
    }
}
