/** Promises 28 to 30: undo, count, digest. */
public final class ToldTest {
    public static void main(String[] args) {
        undoClose();
        undoGiveAndDrop();
        undoSplit();
        undoJoin();
        undoMove();
        undoOnce();
        undoNumbers();
        count();
        digest();
        Bench.end();
    }

    private static void undoClose() {
        Bench b = new Bench();
        Bench.due("28 nothing yet", b.map.undo(), -103);
        b.box(0, 0, 0, 0, 1, 1);
        long before = b.map.digest();
        b.box(0, 0, 1, 0, 2, 1);
        Bench.due("28 close", b.map.undo(), 1);
        Bench.due("28 close: as before", b.map.digest(), before);
        Bench.due("28 close: gone", b.map.told(1, 0), -101);
        Bench.due("28 close: made", b.map.count(2), 2);
        Bench.due("28 close: nothing drawn", b.map.count(3), 0);
        Bench.due("28 close: corners stay", b.map.count(0), 6);
        Bench.due("28 close: a new number", b.box(0, 0, 1, 0, 2, 1), 2);
    }

    private static void undoGiveAndDrop() {
        Bench b = new Bench();
        b.box(0, 5, 0, 0, 1, 1);
        b.map.give(0, 6);
        Bench.due("28 give", b.map.undo(), 1);
        Bench.due("28 give: owner", b.map.told(0, 1), 5);
        long before = b.map.digest();
        b.map.drop(0);
        Bench.due("28 drop", b.map.undo(), 1);
        Bench.due("28 drop: as before", b.map.digest(), before);
        Bench.due("28 drop: there", b.map.count(1), 1);
    }

    private static void undoSplit() {
        Bench b = new Bench();
        b.box(0, 5, 0, 0, 4, 4);
        long before = b.map.digest();
        b.map.split(0, 0, 2, 7);
        Bench.due("28 split", b.map.undo(), 1);
        Bench.due("28 split: as before", b.map.digest(), before);
        Bench.due("28 split: gone", b.map.told(1, 0), -101);
        Bench.due("28 split: a new number", b.map.split(0, 0, 2, 7), 2);
    }

    private static void undoJoin() {
        Bench b = new Bench();
        b.box(0, 5, 0, 0, 4, 4);
        b.box(0, 6, 4, 0, 8, 4);
        long before = b.map.digest();
        b.map.join(0, 1);
        Bench.due("28 join", b.map.undo(), 1);
        Bench.due("28 join: as before", b.map.digest(), before);
        Bench.due("28 join: both there", b.map.count(4), 2);
    }

    private static void undoMove() {
        Bench b = new Bench();
        b.close(0, 5, 0, 0, 4, 0, 0, 4);
        long before = b.map.digest();
        b.map.move(0, 2, b.corner(9, -9));
        Bench.due("28 move", b.map.undo(), 1);
        Bench.due("28 move: as before", b.map.digest(), before);
        b.map.give(0, 1);
        b.map.move(0, 0, b.corner(0, 0));
        b.map.undo();
        Bench.due("28 a move to itself is one", b.map.told(0, 1), 1);
    }

    private static void undoOnce() {
        Bench b = new Bench();
        b.box(0, 5, 0, 0, 1, 1);
        b.map.give(0, 6);
        b.map.give(0, 7);
        Bench.due("28 once", b.map.undo(), 1);
        Bench.due("28 only the latest", b.map.told(0, 1), 6);
        Bench.due("28 not twice", b.map.undo(), -103);
        Bench.due("28 not twice: nothing changed", b.map.told(0, 1), 6);
        b.map.give(0, 8);
        b.map.give(3, 9);
        b.map.drop(3);
        b.map.split(0, 0, 1, 0);
        b.map.join(0, 0);
        b.map.move(0, 9, 0);
        b.map.close(0, 0);
        Bench.due("28 past refusals", b.map.undo(), 1);
        Bench.due("28 past refusals: owner", b.map.told(0, 1), 6);
        b.map.give(0, 9);
        b.corner(30, 30);
        b.map.draw();
        b.map.add(0);
        b.locate(0, 0, 0);
        b.map.hull(0);
        Bench.due("28 past other calls", b.map.undo(), 1);
        Bench.due("28 past other calls: owner", b.map.told(0, 1), 6);
        Bench.due("28 other calls stay", b.map.count(3) + b.map.count(0) + b.map.edge() + b.map.hullAt(1), 7);
    }

    private static void undoNumbers() {
        Bench b = new Bench();
        for (int i = 0; i < 60; i++) {
            Bench.due("28 close " + i, b.close(0, 0, 0, 0, 1, 0, 0, 1), i);
            Bench.due("28 undo " + i, b.map.undo(), 1);
        }
        Bench.due("28 numbers that were given stay so", b.close(0, 0, 0, 0, 1, 0, 0, 1), -104);
        Bench.due("28 none there", b.map.count(1), 0);
    }

    private static void count() {
        Bench b = new Bench();
        b.box(0, 0, 0, 0, 1, 1);
        b.box(3, 0, 0, 0, 1, 1);
        b.box(3, 0, 1, 0, 2, 1);
        b.box(2, 0, 0, 0, 1, 1);
        b.map.drop(3);
        b.map.add(0);
        b.map.add(0);
        int[] want = {6, 3, 4, 2, 1, 0, 0, 2};
        for (int what = 0; what < want.length; what++) {
            Bench.due("29 count " + what, b.map.count(what), want[what]);
        }
        Bench.due("29 count 8", b.map.count(8), -102);
        Bench.due("29 count -1", b.map.count(-1), -102);
        Bench.due("29 count least", b.map.count(Integer.MIN_VALUE), -102);
    }

    private static void digest() {
        Bench b = new Bench();
        Bench.due("30 nothing", b.map.digest(), 23);
        b.close(0, 0, 0, 0, 1, 0, 0, 1);
        b.close(2, -9, 1, 1, 3, 1, 3, 3, 1, 3);
        b.map.drop(0);
        long h = 23;
        for (long it : new long[] {1, 2, -9, 4, 3, 4, 5, 6}) {
            h = 31 * h + it;
        }
        Bench.due("30 one", b.map.digest(), h);
        b.close(0, Integer.MIN_VALUE, 0, 0, 1, 0, 0, 1);
        for (long it : new long[] {2, 0, Integer.MIN_VALUE, 3, 0, 1, 2}) {
            h = 31 * h + it;
        }
        Bench.due("30 two", b.map.digest(), h);
    }
}
