/** Promises 12 to 19: told, give, drop, split, join, move, border, neighbour. */
public final class ParcelsTest {
    /** A block with a bay from above: land round (2, 2) to (4, 6). */
    private static final double[] BAY = {0, 0, 6, 0, 6, 6, 4, 6, 4, 2, 2, 2, 2, 6, 0, 6};

    public static void main(String[] args) {
        told();
        give();
        drop();
        split();
        splitApart();
        splitRefusals();
        join();
        joinRow();
        joinApart();
        joinFaults();
        move();
        moveTurns();
        moveFaults();
        border();
        neighbour();
        Bench.end();
    }

    private static void told() {
        Bench b = new Bench();
        b.corner(50, 50);
        b.close(3, -7, 0, 0, 1, 0, 0, 1);
        Bench.due("12 layer", b.map.told(0, 0), 3);
        Bench.due("12 owner", b.map.told(0, 1), -7);
        Bench.due("12 how many", b.map.told(0, 2), 3);
        Bench.due("12 corner 0", b.map.told(0, 3), 1);
        Bench.due("12 corner 2", b.map.told(0, 5), 3);
        Bench.due("12 no corner 3", b.map.told(0, 6), -1);
        Bench.due("12 no corner 11", b.map.told(0, 14), -1);
        Bench.due("12 what is 15", b.map.told(0, 15), -102);
        Bench.due("12 what is -1", b.map.told(0, -1), -102);
        Bench.due("12 unknown", b.map.told(1, 0), -101);
        Bench.due("12 unknown below", b.map.told(-1, 0), -101);
        Bench.due("12 unknown ahead of outside", b.map.told(60, 15), -101);
        b.map.drop(0);
        Bench.due("12 gone", b.map.told(0, 0), -101);
    }

    private static void give() {
        Bench b = new Bench();
        b.box(0, 5, 0, 0, 1, 1);
        Bench.due("13 the one before", b.map.give(0, 6), 5);
        Bench.due("13 owner", b.map.told(0, 1), 6);
        Bench.due("13 again", b.map.give(0, -101), 6);
        Bench.due("13 any owner", b.map.told(0, 1), -101);
        Bench.due("13 unknown", b.map.give(1, 6), -101);
        b.map.drop(0);
        Bench.due("13 gone", b.map.give(0, 6), -101);
    }

    private static void drop() {
        Bench b = new Bench();
        b.box(0, 0, 0, 0, 1, 1);
        b.box(1, 0, 0, 0, 1, 1);
        b.box(0, 0, 5, 0, 6, 1);
        Bench.due("14 left", b.map.drop(1), 2);
        Bench.due("14 gone", b.map.drop(1), -101);
        Bench.due("14 unknown", b.map.drop(3), -101);
        Bench.due("14 unknown below", b.map.drop(-1), -101);
        Bench.due("14 left again", b.map.drop(0), 1);
        Bench.due("14 room for a new one", b.box(0, 0, 0, 0, 1, 1), 3);
        Bench.due("14 layer 0", b.map.count(4), 2);
    }

    private static void split() {
        Bench b = new Bench();
        b.box(2, 9, 0, 0, 4, 4);
        Bench.due("15 cut", b.map.split(0, 1, 3, 8), 1);
        b.dueRing("15 kept", 0, 0, 0, 4, 0, 0, 4);
        b.dueRing("15 new", 1, 0, 4, 4, 0, 4, 4);
        Bench.due("15 owner kept", b.map.told(0, 1), 9);
        Bench.due("15 owner new", b.map.told(1, 1), 8);
        Bench.due("15 layer new", b.map.told(1, 0), 2);
        Bench c = new Bench();
        c.box(0, 0, 0, 0, 4, 4);
        Bench.due("15 cut from 0", c.map.split(0, 0, 2, 0), 1);
        c.dueRing("15 kept from 0", 0, 0, 0, 4, 4, 0, 4);
        c.dueRing("15 new from 0", 1, 0, 0, 4, 0, 4, 4);
        Bench d = new Bench();
        d.close(0, 0, BAY);
        Bench.due("15 cut the bay's foot", d.map.split(0, 1, 4, 0), 1);
        d.dueRing("15 the bay, kept", 0, 0, 0, 6, 0, 4, 2, 2, 2, 2, 6, 0, 6);
        d.dueRing("15 the bay, new", 1, 4, 2, 6, 0, 6, 6, 4, 6);
    }

    private static void splitApart() {
        Bench b = new Bench();
        b.close(0, 0, BAY);
        Bench.due("15 they follow", b.map.split(0, 2, 3, 0), -205);
        Bench.due("15 they follow, last and first", b.map.split(0, 0, 7, 0), -205);
        Bench.due("15 over the bay", b.map.split(0, 3, 6, 0), -205);
        Bench.due("15 through the bay", b.map.split(0, 2, 7, 0), -205);
        Bench.due("15 across the bay", b.map.split(0, 3, 5, 0), -205);
        Bench.due("15 where untouched", b.map.where(), 0);
        Bench.due("15 none made", b.map.count(2), 1);
        Bench c = new Bench();
        c.close(0, 0, 0, 0, 2, 0, 4, 0, 4, 4, 0, 4);
        Bench.due("15 along edges", c.map.split(0, 0, 2, 0), -205);
        Bench.due("15 from a straight corner", c.map.split(0, 1, 3, 0), 1);
        Bench d = new Bench();
        d.close(0, 0, 0, 0, 2, 2, 4, 0, 4, 4, 0, 4);
        Bench.due("15 through a corner", d.map.split(0, 0, 3, 0), -205);
        Bench.due("15 outside, over a dent", d.map.split(0, 0, 2, 0), -205);
        Bench.due("15 from the dent", d.map.split(0, 1, 3, 0), 1);
        Bench e = new Bench();
        e.close(0, 0, 0, 0, 4, 2, 1, -3, 6, 0, 6, 6, 0, 6);
        Bench.due("15 across edge 0 alone", e.map.split(0, 2, 5, 0), -205);
        Bench g = new Bench();
        g.close(0, 0, 0, 0, 4, 0, 4, 3, 8, 3, 8, -4, 2, -4, 2, -6, 10, -6, 10, 6, 0, 6);
        Bench.due("15 out across edge 0 alone", g.map.split(0, 2, 5, 0), -205);
        Bench f = new Bench();
        f.close(0, 0, 0, 6, 0, 0, 6, 0, 6, 6, 1, 9, 4, 4);
        Bench.due("15 across edge 4 alone", f.map.split(0, 0, 3, 0), -205);
    }

    private static void splitRefusals() {
        Bench b = new Bench();
        b.box(0, 0, 0, 0, 4, 4);
        Bench.due("15 unknown", b.map.split(1, 0, 2, 0), -101);
        Bench.due("15 unknown ahead of outside", b.map.split(-1, 5, 2, 0), -101);
        Bench.due("15 i is j", b.map.split(0, 2, 2, 0), -102);
        Bench.due("15 i above j", b.map.split(0, 3, 1, 0), -102);
        Bench.due("15 no place i", b.map.split(0, -1, 1, 0), -102);
        Bench.due("15 no place j", b.map.split(0, 1, 4, 0), -102);
        Bench.due("15 outside ahead of apart", b.map.split(0, 3, 4, 0), -102);
        for (int made = 1; made < 59; made += 2) {
            Bench.due("15 split " + made, b.map.split(0, 0, 2, 0), made);
            Bench.due("15 join " + made, b.map.join(0, made), 4);
            Bench.due("15 split the other way " + made, b.map.split(0, 1, 3, 0), made + 1);
            Bench.due("15 join " + (made + 1), b.map.join(0, made + 1), 4);
        }
        Bench.due("15 the last number", b.map.split(0, 0, 2, 0), 59);
        Bench.due("15 join", b.map.join(0, 59), 4);
        Bench.due("15 full", b.map.split(0, 0, 2, 0), -104);
        Bench.due("15 apart ahead of full", b.map.split(0, 0, 1, 0), -205);
        Bench.due("15 outside ahead of full", b.map.split(0, 0, 4, 0), -102);
    }

    private static void join() {
        Bench b = new Bench();
        b.box(1, 5, 0, 0, 4, 4);
        b.box(1, 6, 4, 0, 8, 4);
        Bench.due("16 joined", b.map.join(1, 0), 6);
        b.dueRing("16 ring", 1, 0, 0, 4, 0, 8, 0, 8, 4, 4, 4, 0, 4);
        Bench.due("16 owner", b.map.told(1, 1), 6);
        Bench.due("16 gone", b.map.told(0, 0), -101);
        Bench.due("16 there", b.map.count(1), 1);
        Bench.due("16 unknown q", b.map.join(1, 0), -101);
        Bench.due("16 unknown p", b.map.join(2, 1), -101);
        Bench.due("16 unknown ahead of outside", b.map.join(7, 7), -101);
        Bench.due("16 p is q", b.map.join(1, 1), -102);
        b.box(2, 0, 8, 0, 9, 4);
        Bench.due("16 another layer", b.map.join(1, 2), -102);
    }

    private static void joinRow() {
        Bench b = new Bench();
        b.close(0, 0, BAY);
        b.box(0, 0, 2, 2, 4, 6);
        Bench.due("16 a bay filled", b.map.join(0, 1), 6);
        b.dueRing("16 a bay filled", 0, 0, 0, 6, 0, 6, 6, 4, 6, 2, 6, 0, 6);
        b.map.undo();
        Bench.due("16 a bay filled from within", b.map.join(1, 0), 6);
        b.dueRing("16 a bay filled from within", 1, 0, 0, 6, 0, 6, 6, 4, 6, 2, 6, 0, 6);
        Bench c = new Bench();
        c.close(0, 0, 0, 0, 4, 0, 4, 4);
        c.close(0, 0, 0, 0, 8, -4, 4, 4, 4, 0);
        Bench.due("16 all but one edge", c.map.join(0, 1), 3);
        c.dueRing("16 all but one edge", 0, 0, 0, 8, -4, 4, 4);
    }

    private static void joinApart() {
        Bench b = new Bench();
        b.box(0, 0, 0, 0, 4, 4);
        b.box(0, 0, 9, 9, 10, 10);
        b.box(0, 0, 4, 4, 6, 6);
        b.box(0, 0, 4, 1, 6, 3);
        Bench.due("16 far apart", b.map.join(0, 1), -205);
        Bench.due("16 a corner in common", b.map.join(0, 2), -205);
        Bench.due("16 only a part of an edge", b.map.join(0, 3), -205);
        Bench c = new Bench();
        c.close(0, 0, 0, 0, 6, 0, 6, 6, 4, 6, 4, 2, 2, 2, 2, 6, 0, 6);
        c.close(0, 0, 0, 6, 2, 6, 4, 6, 6, 6, 6, 8, 0, 8);
        Bench.due("16 two edges, not in a row", c.map.join(0, 1), -205);
        Bench.due("16 where untouched", c.map.where(), 0);
        Bench.due("16 both there", c.map.count(1), 2);
    }

    private static void joinFaults() {
        Bench b = new Bench();
        b.close(0, 0, 0, 0, 1, 0, 2, 0, 3, 0, 4, 0, 4, 4, 3, 4, 2, 4, 1, 4, 0, 4);
        b.close(0, 0, 4, 0, 5, 0, 6, 0, 6, 4, 5, 4, 4, 4);
        Bench.due("16 too many", b.map.join(0, 1), -201);
        Bench.due("16 too many: where", b.map.where(), 14);
        Bench.due("16 both stay", b.map.count(1), 2);
        Bench c = new Bench();
        c.close(0, 0, 0, 0, 4, 0, 4, 4, 0, 4);
        c.close(0, 0, 4, 0, 8, 0, 8, 8, 0, 4, 6, 4, 4, 1.5);
        Bench.due("16 stretches are no edges", c.map.join(0, 1), -205);
        Bench d = new Bench();
        d.box(0, 0, 0, 0, 4, 4);
        d.close(0, 0, 4, 0, 8, 0, 8, 8, 0, 8, 0, 4, 5, 5, 4, 4);
        // Behind the common edge: (4, 4), (0, 4), (0, 0), (4, 0), (8, 0), (8, 8), (0, 8), (0, 4), (5, 5).
        Bench.due("16 a corner twice", d.map.join(0, 1), -202);
        Bench.due("16 a corner twice: where", d.map.where(), 7);
        // The other way: (4, 0), (8, 0), (8, 8), (0, 8), (0, 4), (5, 5), (4, 4), (0, 4), (0, 0).
        Bench.due("16 a corner twice, from q", d.map.join(1, 0), -202);
        Bench.due("16 a corner twice, from q: where", d.map.where(), 7);
        Bench e = new Bench();
        e.box(0, 0, 0, 0, 4, 4);
        e.close(0, 0, 4, 0, 8, 0, 8, 8, 0, 8, 2, 4, 5, 5, 4, 4);
        // Edge 0 from (4, 4) to (0, 4) has the corner (2, 4) on it, where edge 6 ends and 7 begins.
        Bench.due("16 a corner on an edge", e.map.join(0, 1), -203);
        Bench.due("16 a corner on an edge: where", e.map.where(), 6);
        // From q: (4, 0), (8, 0), (8, 8), (0, 8), (2, 4), (5, 5), (4, 4), (0, 4), (0, 0).
        Bench.due("16 a corner on an edge, from q", e.map.join(1, 0), -203);
        Bench.due("16 a corner on an edge, from q: where", e.map.where(), 306);
        Bench.due("16 nothing changed", e.map.count(1), 2);
    }

    private static void move() {
        Bench b = new Bench();
        b.box(0, 0, 0, 0, 4, 4);
        int c = b.corner(6, 6), was = b.corner(4, 4);
        Bench.due("17 the one before", b.map.move(0, 2, c), was);
        b.dueRing("17 ring", 0, 0, 0, 4, 0, 6, 6, 0, 4);
        Bench.due("17 to itself", b.map.move(0, 2, c), c);
        Bench.due("17 unknown p", b.map.move(1, 2, c), -101);
        Bench.due("17 unknown c", b.map.move(0, 2, 99), -101);
        Bench.due("17 unknown c below", b.map.move(0, 2, -1), -101);
        Bench.due("17 unknown ahead of outside", b.map.move(0, 9, 99), -101);
        Bench.due("17 no place", b.map.move(0, 4, c), -102);
        Bench.due("17 no place below", b.map.move(0, -1, c), -102);
        Bench.due("17 outside ahead of twice", b.map.move(0, 4, b.corner(0, 0)), -102);
    }

    private static void moveTurns() {
        Bench b = new Bench();
        b.close(0, 0, 0, 0, 4, 0, 0, 4);
        int far = b.corner(9, -9);
        Bench.due("17 over the other edge", b.map.move(0, 2, far), b.corner(0, 4));
        b.dueRing("17 turned round", 0, 0, 0, 9, -9, 4, 0);
        int left = b.corner(-3, -1);
        Bench.due("17 a new corner 0", b.map.move(0, 2, left), b.corner(4, 0));
        b.dueRing("17 begun anew", 0, -3, -1, 9, -9, 0, 0);
        Bench.due("17 corner 0 goes away", b.map.move(0, 0, b.corner(20, 20)), left);
        b.dueRing("17 begun at another", 0, 0, 0, 9, -9, 20, 20);
    }

    private static void moveFaults() {
        Bench b = new Bench();
        b.box(0, 0, 0, 0, 4, 4);
        b.box(0, 0, 10, 0, 14, 4);
        b.box(1, 0, 6, 6, 7, 7);
        Bench.due("17 twice", b.map.move(0, 1, b.corner(0, 4)), -202);
        Bench.due("17 twice: where", b.map.where(), 3);
        Bench.due("17 crossed", b.map.move(0, 0, b.corner(6, 2)), -203);
        Bench.due("17 crossed: where", b.map.where(), 1 * 100 + 3);
        Bench.due("17 in line", b.map.move(0, 0, b.corner(4, 2)), -203);
        Bench.due("17 in line: where", b.map.where(), 1);
        Bench.due("17 over", b.map.move(0, 2, b.corner(11, 1)), -204);
        Bench.due("17 over: where", b.map.where(), 1);
        Bench.due("17 touching", b.map.move(0, 2, b.corner(10, 4)), b.corner(4, 4));
        Bench.due("17 not over another layer's", b.map.move(0, 2, b.corner(8, 8)), b.corner(10, 4));
        b.dueRing("17 at last", 0, 0, 0, 4, 0, 8, 8, 0, 4);
    }

    private static void border() {
        Bench b = new Bench();
        b.box(0, 0, 0, 0, 4, 4);
        b.box(0, 0, 4, 0, 8, 4);
        b.box(0, 0, 0, 4, 8, 6);
        b.box(0, 0, 8, 6, 9, 9);
        b.box(1, 0, 0, 0, 4, 4);
        b.close(0, 0, 8, 0, 9, 0, 9, 5, 8, 5, 8, 3, 8, 2, 8, 1);
        Bench.due("18 one edge", b.map.border(0, 1), 1);
        Bench.due("18 turned", b.map.border(1, 0), 1);
        Bench.due("18 part of an edge", b.map.border(0, 2), 1);
        Bench.due("18 a corner is none", b.map.border(2, 3), 0);
        Bench.due("18 another layer", b.map.border(0, 4), 4);
        Bench.due("18 one edge along four", b.map.border(1, 5), 4);
        Bench.due("18 apart", b.map.border(0, 5), 0);
        Bench.due("18 p is q", b.map.border(0, 0), -102);
        Bench.due("18 unknown p", b.map.border(6, 0), -101);
        Bench.due("18 unknown q", b.map.border(0, -1), -101);
        Bench.due("18 unknown ahead of outside", b.map.border(9, 9), -101);
    }

    private static void neighbour() {
        Bench b = new Bench();
        b.box(0, 0, 4, 0, 8, 4);
        b.box(0, 0, 8, 4, 12, 8);
        b.box(0, 0, 0, 0, 4, 4);
        b.box(1, 0, 4, 0, 8, 4);
        b.box(0, 0, 4, 4, 8, 8);
        b.box(0, 0, 8, 1, 12, 3);
        Bench.due("19 first", b.map.neighbour(0, 0), 2);
        Bench.due("19 second", b.map.neighbour(0, 1), 4);
        Bench.due("19 third", b.map.neighbour(0, 2), 5);
        Bench.due("19 no fourth", b.map.neighbour(0, 3), -1);
        Bench.due("19 below", b.map.neighbour(0, -1), -1);
        Bench.due("19 alone in its layer", b.map.neighbour(3, 0), -1);
        Bench.due("19 unknown", b.map.neighbour(6, 0), -101);
        b.map.drop(2);
        Bench.due("19 gone ones are none", b.map.neighbour(0, 0), 4);
        Bench.due("19 of a gone one", b.map.neighbour(2, 0), -101);
    }
}
