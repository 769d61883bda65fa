/**
 * Rings of 3 to 12 corners, of which each place and each edge has its turn in what a promise says: one
 * that is passed over at a single place is noticed. By the promises' numbers.
 */
public final class EachPlaceTest {
    /** A ring of twelve, turning left, with a corner 0 ahead of all others and none in line. */
    private static final int[][] TWELVE = {{-12, 0}, {-10, -6}, {-6, -10}, {0, -12}, {6, -10}, {10, -6},
        {12, 0}, {10, 6}, {6, 10}, {0, 12}, {-6, 10}, {-10, 6}};

    public static void main(String[] args) {
        for (int n = 3; n <= 12; n++) {
            closed(n);
            twice(n);
            reversed(n);
            cornerOnEdge(n);
            likeBorders(n);
        }
        for (int n = 3; n <= 11; n++) {
            foldedBack(n);
        }
        fans();
        splitAndJoined();
        joinedByTwoEdges();
        joinedByThreeEdges();
        hooks();
        overByEdge();
        tips();
        levels();
        moved();
        Bench.end();
    }

    // ---- rings as they are told

    /** The first n of twelve: a ring that bends outwards everywhere, begun at the one ahead. */
    private static int[][] first(int n) {
        int[][] ring = new int[n][];
        for (int i = 0; i < n; i++) {
            ring[i] = TWELVE[i];
        }
        return ring;
    }

    /** The same ring, told from one place on, onwards (1) or back (-1). */
    private static int[][] begun(int[][] ring, int from, int way) {
        int[][] drawn = new int[ring.length][];
        for (int i = 0; i < ring.length; i++) {
            drawn[i] = ring[Math.floorMod(from + way * i, ring.length)];
        }
        return drawn;
    }

    /** From place i on round to place j, and then some more. */
    private static int[][] run(int i, int j, int[]... more) {
        int many = Math.floorMod(j - i, 12) + 1;
        int[][] ring = new int[many + more.length][];
        for (int k = 0; k < ring.length; k++) {
            ring[k] = k < many ? TWELVE[(i + k) % 12] : more[k - many];
        }
        return ring;
    }

    private static int[] times(int[] corner, int up, int down) {
        return new int[] {corner[0] * up / down, corner[1] * up / down};
    }

    private static int[] middle(int[] a, int[] b) {
        return new int[] {(a[0] + b[0]) / 2, (a[1] + b[1]) / 2};
    }

    private static double[] told(int[][] ring) {
        double[] xy = new double[2 * ring.length];
        for (int i = 0; i < ring.length; i++) {
            xy[2 * i] = ring[i][0];
            xy[2 * i + 1] = ring[i][1];
        }
        return xy;
    }

    private static double[] box(int x, int y, int x2, int y2) {
        return new double[] {x, y, x2, y, x2, y2, x, y2};
    }

    private static long twiceOf(int[][] ring) {
        long sum = 0;
        for (int i = 0; i < ring.length; i++) {
            int[] a = ring[i], b = ring[(i + 1) % ring.length];
            sum += (long) a[0] * b[1] - (long) b[0] * a[1];
        }
        return sum;
    }

    private static int cornerOf(Bench b, int[] corner) {
        return b.corner(corner[0], corner[1]);
    }

    // ---- sound rings

    private static void closed(int n) {
        int[][] ring = first(n);
        for (int from = 0; from < n; from++) {
            for (int way = -1; way <= 1; way += 2) {
                String what = n + " from " + from + ", way " + way;
                Bench b = new Bench();
                Bench.due("10 " + what, b.close(1, -5, told(begun(ring, from, way))), 0);
                b.dueRing("10 " + what, 0, told(ring));
                Bench.due("25 " + what, b.map.twice(0), twiceOf(ring));
                long h = 23;
                for (int it : new int[] {0, 1, -5, n}) {
                    h = 31 * h + it;
                }
                for (int[] c : ring) {
                    h = 31 * h + cornerOf(b, c);
                }
                Bench.due("30 " + what, b.map.digest(), h);
                Bench.due("23 " + what, b.map.hull(1), n);
                for (int k = 0; k < n; k++) {
                    Bench.due("24 " + what + ", corner " + k, b.map.hullAt(k), cornerOf(b, ring[k]));
                }
            }
        }
    }

    /** The same ring in two layers, and one with corners in the middle of its edges. */
    private static void likeBorders(int n) {
        int[][] ring = first(n);
        Bench b = new Bench();
        b.close(0, 0, told(ring));
        b.close(1, 0, told(ring));
        Bench.due("18 like rings of " + n, b.map.border(0, 1), n);
        if (n > 6) {
            return;
        }
        int[][] halved = new int[2 * n][];
        for (int i = 0; i < n; i++) {
            halved[2 * i] = ring[i];
            halved[2 * i + 1] = middle(ring[i], ring[(i + 1) % n]);
        }
        Bench.due("10 halved edges of " + n, b.close(2, 0, told(halved)), 2);
        Bench.due("18 halved edges of " + n, b.map.border(0, 2), 2 * n);
        Bench.due("18 halved edges of " + n + ", turned", b.map.border(2, 0), 2 * n);
        Bench.due("25 halved edges of " + n, b.map.twice(2), twiceOf(ring));
        Bench.due("23 halved edges of " + n, b.map.hull(2), n);
        Bench.due("10 halved edges over whole ones, of " + n, b.close(0, 0, told(halved)), -204);
        Bench.due("10 whole edges over halved ones, of " + n, b.close(2, 0, told(ring)), -204);
    }

    // ---- faults

    private static void dueFault(String what, int fault, int where, int[][] drawn) {
        Bench b = new Bench();
        Bench.due("10 " + what, b.close(0, 0, told(drawn)), fault);
        Bench.due("11 " + what, b.map.where(), where);
    }

    private static void twice(int n) {
        for (int i = 0; i < n; i++) {
            for (int j = i + 1; j < n; j++) {
                int[][] drawn = first(n);
                drawn[j] = drawn[i];
                dueFault(n + ", place " + j + " like " + i, -202, j, drawn);
                if (i > 0 && j + 1 < n) {
                    drawn[n - 1] = drawn[0];
                    dueFault(n + ", places " + i + " and " + j + ", 0 and the last", -202, n - 1, drawn);
                }
            }
        }
    }

    /** Places i + 1 to j told the other way round: edges i and j cross, and no others. */
    private static void reversed(int n) {
        for (int i = 0; i < n; i++) {
            for (int j = i + 2; j < n; j++) {
                if (i > 0 || j < n - 1) {
                    int[][] drawn = first(n);
                    for (int k = i + 1; k <= j; k++) {
                        drawn[k] = TWELVE[i + 1 + j - k];
                    }
                    dueFault(n + ", edges " + i + " and " + j, -203, 100 * i + j, drawn);
                }
            }
        }
    }

    /** WHERE of an edge that has something in common with two others. */
    private static int least(int edge, int one, int two) {
        int first = 100 * Math.min(edge, one) + Math.max(edge, one);
        return Math.min(first, 100 * Math.min(edge, two) + Math.max(edge, two));
    }

    /** Behind edge i the ring comes back to its middle: the next edge lies upon it, the one behind touches it. */
    private static void foldedBack(int n) {
        for (int i = 0; i < n; i++) {
            int back = (i + 1) % n + 1;
            int[][] ring = new int[n + 1][];
            for (int k = 0; k <= n; k++) {
                ring[k] = k < back ? TWELVE[k] : k > back ? TWELVE[k - 1] : middle(TWELVE[i], TWELVE[(i + 1) % n]);
            }
            for (int from = 0; from <= n; from++) {
                int edge = Math.floorMod(back - 2 - from, n + 1);
                int next = Math.floorMod(back - 1 - from, n + 1), behind = Math.floorMod(back - from, n + 1);
                dueFault(n + " and one back on edge " + i + ", from " + from, -203, least(edge, next, behind),
                        begun(ring, from, 1));
            }
        }
    }

    /** Corner k stands in the middle of an edge that is not its own. */
    private static void cornerOnEdge(int n) {
        for (int k = 0; k < n; k++) {
            for (int i = 0; i < n; i++) {
                if (i != k && (i + 1) % n != k) {
                    int[][] drawn = first(n);
                    drawn[k] = middle(drawn[i], drawn[(i + 1) % n]);
                    dueFault(n + ", corner " + k + " on edge " + i, -203, least(i, k, (k + n - 1) % n), drawn);
                }
            }
        }
    }

    // ---- one upon each edge

    private static void fans() {
        Bench b = new Bench();
        b.close(0, 0, told(TWELVE));
        for (int i = 0; i < 12; i++) {
            int[] from = TWELVE[i], to = TWELVE[(i + 1) % 12];
            int[] out = times(middle(from, to), 2, 1);
            Bench.due("10 upon edge " + i, b.close(0, 0, told(new int[][] {to, from, out})), 1 + i);
        }
        for (int i = 0; i < 12; i++) {
            Bench.due("18 upon edge " + i, b.map.border(0, 1 + i), 1);
            Bench.due("18 upon edge " + i + ", turned", b.map.border(1 + i, 0), 1);
            Bench.due("18 beside one another, " + i, b.map.border(1 + i, 1 + (i + 1) % 12), 0);
            Bench.due("19 upon edge " + i, b.map.neighbour(0, i), 1 + i);
            Bench.due("19 of the one upon edge " + i, b.map.neighbour(1 + i, 0), 0);
            Bench.due("19 of the one upon edge " + i + ", no more", b.map.neighbour(1 + i, 1), -1);
            Bench.due("16 upon edge " + i, b.map.join(0, 1 + i), -201);
            Bench.due("16 upon edge " + i + ": where", b.map.where(), 13);
            Bench.due("16 upon edge " + i + ", turned", b.map.join(1 + i, 0), -201);
            Bench.due("16 beside one another, " + i, b.map.join(1 + i, 1 + (i + 1) % 12), -205);
        }
    }

    private static void dueJoined(String what, int[][] one, int[][] other) {
        for (int p = 0; p < 2; p++) {
            Bench b = new Bench();
            Bench.due("10 " + what + ", one", b.close(0, 7, told(one)), 0);
            Bench.due("10 " + what + ", other", b.close(0, 8, told(other)), 1);
            Bench.due("16 " + what, b.map.join(p, 1 - p), 12);
            b.dueRing("16 " + what, p, told(TWELVE));
            Bench.due("16 " + what + ", owner", b.map.told(p, 1), 7 + p);
            Bench.due("25 " + what, b.map.twice(p), twiceOf(TWELVE));
            Bench.due("28 " + what, b.map.undo(), 1);
            Bench.due("28 " + what + ", one", b.map.twice(0), twiceOf(one));
            Bench.due("28 " + what + ", other", b.map.twice(1), twiceOf(other));
        }
    }

    private static void splitAndJoined() {
        for (int i = 0; i < 12; i++) {
            for (int j = i + 2; j < 12 && j - i < 11; j++) {
                Bench b = new Bench();
                b.close(0, 7, told(TWELVE));
                String what = "at " + i + " and " + j;
                Bench.due("15 " + what, b.map.split(0, i, j, 8), 1);
                Bench.due("25 new " + what, b.map.twice(1), twiceOf(run(i, j)));
                Bench.due("25 kept " + what, b.map.twice(0), twiceOf(run(j, i)));
                Bench.due("18 " + what, b.map.border(0, 1), 1);
                dueJoined(what, run(i, j), run(j, i));
            }
        }
    }

    private static void joinedByTwoEdges() {
        int[] mid = {0, 0};
        for (int i = 0; i < 12; i++) {
            for (int far = 2; far <= 10; far++) {
                int j = (i + far) % 12;
                dueJoined("by two edges, " + i + " to " + j, run(i, j, mid), run(j, i, mid));
            }
        }
    }

    private static void joinedByThreeEdges() {
        for (int i = 0; i < 12; i++) {
            for (int far = 3; far <= 9; far++) {
                int j = (i + far) % 12;
                int[] atI = times(TWELVE[i], 1, 2), atJ = times(TWELVE[j], 1, 2);
                dueJoined("by three edges, " + i + " to " + j, run(i, j, atJ, atI), run(j, i, atI, atJ));
            }
        }
    }

    // ---- cuts

    /**
     * P, Q, B, R, A: from A one goes straight to B, at first inside, then out across the edge P Q alone, and
     * comes to B from outside. Turned in quarters and mirrored, with more corners on one of the other edges,
     * the edge P Q has any number.
     */
    private static void hooks() {
        int[][] hook = {{-36, 0}, {36, 0}, {0, -36}, {81, -9}, {0, 36}};
        for (int turn = 0; turn < 8; turn++) {
            int[][] ring = new int[5][];
            for (int i = 0; i < 5; i++) {
                int x = turn < 4 ? hook[i][0] : -hook[i][0], y = hook[i][1];
                for (int k = 0; k < turn % 4; k++) {
                    int was = x;
                    x = -y;
                    y = was;
                }
                ring[i] = new int[] {x, y};
            }
            for (int edge = 0; edge < 5; edge++) {
                for (int more = 0; more < 8; more++) {
                    hook("turn " + turn + ", " + more + " more on edge " + edge, ring, edge, more);
                }
            }
        }
    }

    private static void hook(String what, int[][] ring, int edge, int more) {
        int[] from = ring[edge], to = ring[(edge + 1) % 5];
        int[][] drawn = new int[5 + more][];
        for (int k = 0; k < drawn.length; k++) {
            int at = k - edge;
            drawn[k] = at <= 0 ? ring[k] : at > more ? ring[k - more]
                    : new int[] {from[0] + (to[0] - from[0]) * at / 9, from[1] + (to[1] - from[1]) * at / 9};
        }
        Bench b = new Bench();
        Bench.due("10 " + what, b.close(0, 0, told(drawn)), 0);
        int a = placeOf(b, ring[4]), end = placeOf(b, ring[2]);
        Bench.due("15 " + what, b.map.split(0, Math.min(a, end), Math.max(a, end), 0), -205);
        Bench.due("15 " + what + ": none made", b.map.count(2), 1);
    }

    private static int placeOf(Bench b, int[] corner) {
        for (int i = 0; i < b.map.told(0, 2); i++) {
            if (b.map.told(0, 3 + i) == cornerOf(b, corner)) {
                return i;
            }
        }
        return -1;
    }

    // ---- where lands lie

    /** A piece of the other one, all along its border but for edge k, which is within. */
    private static void overByEdge() {
        int[][] whole = {{0, 0}, {96, -48}, {96, 120}, {12, 72}, {48, 36}};
        for (int k = 1; k <= 9; k++) {
            int[][] piece = new int[3 + k][];
            for (int i = 0; i < k; i++) {
                piece[i] = new int[] {12 + 3 * i, 72 - 3 * i};
            }
            piece[k] = whole[4];
            piece[k + 1] = new int[] {96, 36};
            piece[k + 2] = whole[2];
            dueOver("by edge " + k, told(whole), told(piece));
        }
    }

    private static void dueOver(String what, double[] one, double[] other) {
        for (int turn = 0; turn < 2; turn++) {
            Bench b = new Bench();
            Bench.due("10 " + what + ", turn " + turn + ": the first", b.close(0, 0, turn == 0 ? one : other), 0);
            Bench.due("10 " + what + ", turn " + turn, b.close(0, 0, turn == 0 ? other : one), -204);
        }
    }

    /** Corner k alone reaches to where another one lies; only along y if it would be the one ahead else. */
    private static void tips() {
        for (int k = 1; k < 12; k++) {
            int[][] ring = first(12);
            int[] c = TWELVE[k];
            int[] tip = {c[0] < 0 ? c[0] : 3 * c[0], 3 * c[1]};
            ring[k] = tip;
            double[] near = box(tip[0] - 1, tip[1] - 1, tip[0] + 1, tip[1] + 1);
            dueOver("tip " + k, told(ring), near);
        }
    }

    /** Level with each edge, at the middle of its height: west of all, inside, east of all. */
    private static void levels() {
        Bench b = new Bench();
        b.close(0, 0, told(TWELVE));
        for (int y : new int[] {-11, -8, -3, 0, 3, 8, 11}) {
            Bench.due("20 level " + y + ", inside", b.locate(0, 0, y), 0);
            Bench.due("21 level " + y + ", inside", b.map.edge(), -1);
            Bench.due("20 level " + y + ", west", b.locate(0, -50, y), -1);
            Bench.due("20 level " + y + ", east", b.locate(0, 50, y), -1);
            Bench.due("20 upright " + y + ", inside", b.locate(0, y, 0), 0);
            Bench.due("20 upright " + y + ", south", b.locate(0, y, -50), -1);
            Bench.due("20 upright " + y + ", north", b.locate(0, y, 50), -1);
        }
    }

    // ---- moves

    private static void moved() {
        for (int i = 0; i < 12; i++) {
            Bench b = new Bench();
            b.close(0, 0, told(TWELVE));
            for (int k = 0; k < 12; k++) {
                int[] at = times(TWELVE[k], 2, 1);
                Bench.due("10 box " + k, b.close(0, 0, box(at[0] - 1, at[1] - 1, at[0] + 1, at[1] + 1)), 1 + k);
            }
            for (int k = 0; k < 12; k++) {
                if (k != i) {
                    Bench.due("17 " + i + " to corner " + k, b.map.move(0, i, cornerOf(b, TWELVE[k])), -202);
                    Bench.due("17 " + i + " to corner " + k + ": where", b.map.where(), Math.max(i, k));
                }
                if (k != i && (k + 1) % 12 != i) {
                    int on = cornerOf(b, middle(TWELVE[k], TWELVE[(k + 1) % 12]));
                    Bench.due("17 " + i + " on edge " + k, b.map.move(0, i, on), -203);
                    Bench.due("17 " + i + " on edge " + k + ": where", b.map.where(), least(k, i, (i + 11) % 12));
                }
            }
            Bench.due("17 " + i + " into a box", b.map.move(0, i, cornerOf(b, times(TWELVE[i], 2, 1))), -204);
            Bench.due("17 " + i + " into a box: where", b.map.where(), 1 + i);
            int[][] ring = first(12);
            ring[i] = times(TWELVE[i], 3, 2);
            Bench.due("17 " + i + " outwards", b.map.move(0, i, cornerOf(b, ring[i])), cornerOf(b, TWELVE[i]));
            int ahead = 0;
            for (int k = 1; k < 12; k++) {
                ahead = ring[k][0] < ring[ahead][0] ? k : ahead;
            }
            b.dueRing("17 " + i + " outwards", 0, told(begun(ring, ahead, 1)));
            Bench.due("25 " + i + " outwards", b.map.twice(0), twiceOf(ring));
        }
    }
}
