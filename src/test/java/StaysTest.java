import java.util.List;

/**
 * A call that is no refusal changes what its promise says, and nothing else: it is made on one of two like
 * maps, and all that can be told of both stays alike, but for the rows that the call may change.
 */
public final class StaysTest {
    private interface Call {
        long on(Bench b);
    }

    private static final String[] ROWS = {"where", "sure", "edge", "hull", "corners", "there", "made", "drawn",
        "layer 0", "layer 1", "layer 2", "layer 3", "digest", "undo", "undone", "close"};

    public static void main(String[] args) {
        corners();
        drawing();
        parcels();
        finding();
        undo();
        foundThen();
        toldAgain();
        Bench.end();
    }

    /** Of all that is told something, each other than in a new map. */
    private static Bench town() {
        Bench b = new Bench();
        b.box(0, 50, 0, 0, 4, 4);
        b.box(0, 51, 4, 0, 8, 4);
        b.box(1, 52, 0, 0, 4, 4);
        b.close(3, 53, 20, 20, 24, 20, 20, 24);
        b.corner(2, 2);
        b.corner(9, 9);
        b.draw(0, 0, 4, 0);
        b.map.close(0, 0);
        b.draw(8, 8, 9, 8, 9, 9);
        b.map.side(0, 0, 0);
        b.locate(0, 0, 2);
        b.map.hull(0);
        b.map.give(0, 60);
        return b;
    }

    private static long[] told(Bench b) {
        long[] told = new long[ROWS.length];
        told[0] = b.map.where();
        told[1] = b.map.sure();
        told[2] = b.map.edge();
        for (int k = -1; k < 13; k++) {
            told[3] = 31 * told[3] + b.map.hullAt(k);
        }
        for (int what = 0; what < 8; what++) {
            told[4 + what] = b.map.count(what);
        }
        told[12] = b.map.digest();
        told[13] = b.map.undo();
        told[14] = b.map.digest();
        told[15] = b.map.close(2, 5);
        return told;
    }

    private static void stays(String what, long due, Call call, String... but) {
        Bench b = town();
        Bench.due(what, call.on(b), due);
        long[] got = told(b), want = told(town());
        for (int i = 0; i < ROWS.length; i++) {
            if (!List.of(but).contains(ROWS[i])) {
                Bench.due(what + ": what it leaves as it was, " + ROWS[i], got[i], want[i]);
            }
        }
    }

    private static void corners() {
        Bench b = town();
        int made = b.map.count(0);
        stays("2 a new one", made, c -> c.corner(5, 6), "corners");
        stays("2 one that is there", 0, c -> c.corner(0, 0));
        stays("4 left", 1, c -> c.map.side(0, 1, 2), "sure");
        stays("4 in line", 0, c -> c.map.side(0, 1, 1));
        stays("6 cross", 1, c -> c.map.cross(0, 2, 1, 3));
        stays("7 nearest", 0, c -> c.nearest(-5, 0));
    }

    private static void drawing() {
        stays("8 draw", 3, c -> c.map.draw(), "drawn", "close");
        stays("9 add", 4, c -> c.map.add(0), "drawn", "close");
        stays("10 close", 4, c -> c.map.close(0, 9), "there", "made", "drawn", "layer 0", "digest", "undone", "close");
        stays("10 close in layer 2", 4, c -> c.map.close(2, 9), "there", "made", "drawn", "layer 2", "digest", "undone",
                "close");
    }

    private static void parcels() {
        stays("13 give", 60, c -> c.map.give(0, 9), "digest", "undone");
        stays("13 give the same", 60, c -> c.map.give(0, 60), "undone");
        stays("14 drop", 3, c -> c.map.drop(0), "there", "layer 0", "digest", "undone");
        stays("15 split", 4, c -> c.map.split(0, 0, 2, 9), "there", "made", "layer 0", "digest", "undone",
                "close");
        stays("15 split in layer 1", 4, c -> c.map.split(2, 1, 3, 9), "there", "made", "layer 1", "digest", "undone",
                "close");
        stays("16 join", 6, c -> c.map.join(0, 1), "there", "layer 0", "digest", "undone");
        stays("16 join, turned", 6, c -> c.map.join(1, 0), "there", "layer 0", "digest", "undone");
        stays("17 move", 3, c -> c.map.move(0, 3, 9), "digest", "undone");
        stays("17 move to where it is", 3, c -> c.map.move(0, 3, 3), "undone");
        stays("18 border", 1, c -> c.map.border(0, 1));
        stays("19 neighbour", 1, c -> c.map.neighbour(0, 0));
    }

    private static void finding() {
        stays("20 inside", 1, c -> c.locate(0, 5, 1), "edge");
        stays("20 on another edge", 0, c -> c.locate(0, 4, 1), "edge");
        stays("20 none", -1, c -> c.locate(2, 4, 1), "edge");
        stays("22 walk", 1, c -> c.map.walk(0, 0, 5, 1));
        stays("22 walk, none", -1, c -> c.map.walk(2, 0, 5, 0));
        stays("23 hull", 3, c -> c.map.hull(3), "hull");
        stays("25 twice", 32, c -> c.map.twice(0));
        stays("26 compare", 0, c -> c.map.compare(0, 1));
        stays("27 quota", 4, c -> c.map.quota(0, 7));
    }

    private static void undo() {
        stays("28 of give", 1, c -> c.map.undo(), "digest", "undo");
        Call[] changes = {c -> c.map.close(0, 9), c -> c.map.give(1, 9), c -> c.map.drop(1), c -> c.map.split(0, 0, 2, 9),
            c -> c.map.join(0, 1), c -> c.map.move(0, 3, 9)};
        int[] due = {4, 51, 3, 4, 6, 3};
        String[] names = {"close", "give", "drop", "split", "join", "move"};
        for (int i = 0; i < changes.length; i++) {
            Call change = changes[i];
            Bench.due("28 " + names[i], change.on(town()), due[i]);
            String[] but = i == 0 ? new String[] {"undo", "undone", "made", "drawn", "close"}
                    : i == 3 ? new String[] {"undo", "undone", "made", "close"} : new String[] {"undo", "undone"};
            stays("28 of " + names[i], 1, c -> {
                change.on(c);
                return c.map.undo();
            }, but);
        }
    }

    /** What was found stays as it was found, though the land changes after it, and its numbers with it. */
    private static void foundThen() {
        Bench b = new Bench();
        b.box(0, 0, 0, 0, 4, 4);
        int[] c = {b.corner(0, 0), b.corner(4, 0), b.corner(4, 4), b.corner(0, 4)};
        Bench.due("20 on the last edge", b.locate(0, 0, 2), 0);
        Bench.due("23 a box", b.map.hull(0), 4);
        Bench.due("17 another corner 0", b.map.move(0, 3, b.corner(-1, 4)), c[3]);
        Bench.due("12 another corner 0", b.map.told(0, 3), b.corner(-1, 4));
        Bench.due("21 the edge's number then", b.map.edge(), 3);
        Bench.due("24 the ring then", b.map.hullAt(3), c[3]);
        Bench.due("24 where it began then", b.map.hullAt(0), c[0]);
        Bench.due("15 cut", b.map.split(0, 1, 3, 0), 1);
        Bench.due("21 the edge's number then, cut since", b.map.edge(), 3);
        Bench.due("24 the ring then, cut since", b.map.hullAt(2), c[2]);
        Bench.due("16 joined", b.map.join(1, 0), 4);
        b.map.drop(1);
        Bench.due("21 the edge's number then, all gone since", b.map.edge(), 3);
        Bench.due("24 the ring then, all gone since", b.map.hullAt(1), c[1]);
        Bench.due("23 no parcels", b.map.hull(0), -103);
        Bench.due("24 the ring found latest", b.map.hullAt(1), c[1]);
        Bench.due("20 none found", b.locate(0, 0, 2), -1);
        Bench.due("21 none found", b.map.edge(), -1);
    }

    /** To be told something twice changes nothing either. */
    private static void toldAgain() {
        Bench b = town();
        for (int i = 0; i < 3; i++) {
            Bench.due("11 again " + i, b.map.where(), 2);
            Bench.due("5 again " + i, b.map.sure(), 0);
            Bench.due("21 again " + i, b.map.edge(), 3);
            Bench.due("24 again " + i, b.map.hullAt(1), 4);
            Bench.due("12 again " + i, b.map.told(1, 1), 51);
            Bench.due("29 again " + i, b.map.count(3), 3);
        }
    }
}
