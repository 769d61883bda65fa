/** Promises 8 to 11: draw, add, close, where. */
public final class DrawingTest {
    public static void main(String[] args) {
        draw();
        add();
        close();
        closeTurns();
        refusals();
        few();
        twice();
        crossed();
        over();
        overExactly();
        touching();
        full();
        where();
        Bench.end();
    }

    private static void draw() {
        Bench b = new Bench();
        b.corner(0, 0);
        Bench.due("8 nothing before", b.map.draw(), 0);
        b.map.add(0);
        b.map.add(0);
        Bench.due("8 two before", b.map.draw(), 2);
        Bench.due("8 empty now", b.map.count(3), 0);
        Bench.due("8 again", b.map.draw(), 0);
    }

    private static void add() {
        Bench b = new Bench();
        Bench.due("9 unknown", b.map.add(0), -101);
        b.corner(0, 0);
        b.corner(1, 0);
        Bench.due("9 without draw", b.map.add(0), 1);
        Bench.due("9 unknown below", b.map.add(-1), -101);
        for (int i = 1; i < 20; i++) {
            Bench.due("9 corner " + i, b.map.add(i % 2), i + 1);
        }
        Bench.due("9 full", b.map.add(0), -104);
        Bench.due("9 unknown ahead of full", b.map.add(2), -101);
        Bench.due("9 twenty", b.map.count(3), 20);
        Bench.due("9 draw after full", b.map.draw(), 20);
        Bench.due("9 add after full", b.map.add(1), 1);
    }

    private static void close() {
        Bench b = new Bench();
        Bench.due("10 first", b.box(2, 77, 0, 0, 2, 2), 0);
        Bench.due("10 layer", b.map.told(0, 0), 2);
        Bench.due("10 owner", b.map.told(0, 1), 77);
        b.dueRing("10 ring", 0, 0, 0, 2, 0, 2, 2, 0, 2);
        Bench.due("10 drawn is empty", b.map.count(3), 0);
        Bench.due("10 empty: few", b.map.close(0, 0), -201);
        Bench.due("10 empty: where", b.map.where(), 0);
        Bench.due("10 the same in another layer", b.box(3, Integer.MIN_VALUE, 0, 0, 2, 2), 1);
        Bench.due("10 owner least", b.map.told(1, 1), Integer.MIN_VALUE);
        Bench.due("10 twelve corners", b.close(0, 0, 0, 0, 1, 0, 2, 0, 3, 0, 3, 1, 3, 2, 3, 3, 2, 3, 1, 3, 0, 3, 0, 2, 0, 1), 2);
        Bench.due("10 twelve corners told", b.map.told(2, 2), 12);
    }

    private static void closeTurns() {
        Bench b = new Bench();
        b.close(0, 0, 5, 5, 0, 5, 0, 0, 5, 0);
        b.dueRing("10 begun at corner 0", 0, 0, 0, 5, 0, 5, 5, 0, 5);
        b.close(1, 0, 5, 5, 5, 0, 0, 0, 0, 5);
        b.dueRing("10 turned round", 1, 0, 0, 5, 0, 5, 5, 0, 5);
        b.close(2, 0, 3, 1, 0, 2, 0, 1, 1, -4);
        b.dueRing("10 same x: the lesser y", 2, 0, 1, 1, -4, 3, 1, 0, 2);
        b.close(3, 0, 0, 0, 0, 4, 1, 1, 4, 0);
        b.dueRing("10 bent inwards, turned round", 3, 0, 0, 4, 0, 1, 1, 0, 4);
        Bench c = new Bench();
        c.close(0, 0, 2, 4, 1, 2, 0, 0, 3, 0);
        c.dueRing("10 straight on at a corner", 0, 0, 0, 3, 0, 2, 4, 1, 2);
    }

    private static void refusals() {
        Bench b = new Bench();
        b.draw(0, 0, 1, 0, 0, 1);
        Bench.due("10 layer 4", b.map.close(4, 0), -102);
        Bench.due("10 layer -1", b.map.close(-1, 0), -102);
        Bench.due("10 still drawn", b.map.count(3), 3);
        Bench.due("10 where untouched", b.map.where(), 0);
        Bench.due("10 none made", b.map.count(2), 0);
        Bench.due("10 then well", b.map.close(3, 0), 0);
        b.draw(0, 0, 1, 0);
        Bench.due("10 outside ahead of few", b.map.close(4, 0), -102);
    }

    private static void few() {
        Bench b = new Bench();
        b.draw(0, 0, 1, 0);
        Bench.due("10 two corners", b.map.close(0, 0), -201);
        Bench.due("11 two corners", b.map.where(), 2);
        b.draw(0, 0, 1, 0, 2, 0, 3, 0, 3, 1, 3, 2, 3, 3, 2, 3, 1, 3, 0, 3, 0, 2, 0, 1, 0, 0.5);
        Bench.due("10 thirteen corners", b.map.close(0, 0), -201);
        Bench.due("11 thirteen corners", b.map.where(), 13);
        b.draw(0, 0, 0, 0);
        Bench.due("10 few ahead of twice", b.map.close(0, 0), -201);
        Bench.due("10 what is drawn stays", b.map.count(3), 2);
    }

    private static void twice() {
        Bench b = new Bench();
        b.draw(5, 5, 0, 0, 1, 0, 0, 0, 5, 5, 0, 0);
        Bench.due("10 twice", b.map.close(0, 0), -202);
        Bench.due("11 the first one's place least", b.map.where(), 4);
        b.draw(5, 5, 0, 0, 1, 0, 0, 0, 0, 0);
        b.map.close(0, 0);
        Bench.due("11 then the second's", b.map.where(), 3);
        b.draw(0, 0, 2, 2, 2, 0, 0, 2, 1, 5, 1, 5);
        Bench.due("10 twice ahead of crossed", b.map.close(0, 0), -202);
        Bench.due("11 side by side", b.map.where(), 5);
    }

    private static void dueCrossed(String what, int where, double... xy) {
        Bench b = new Bench();
        b.draw(xy);
        Bench.due("10 crossed, " + what, b.map.close(0, 0), -203);
        Bench.due("11 crossed, " + what, b.map.where(), where);
    }

    private static void crossed() {
        dueCrossed("a bow", 2, 0, 0, 2, 2, 2, 0, 0, 2);
        dueCrossed("a bow begun elsewhere", 103, 2, 0, 0, 0, 2, 2, 0, 2);
        dueCrossed("in line", 2, 0, 0, 1, 1, 2, 2);
        dueCrossed("back on itself", 1, 0, 0, 2, 2, 1, 1);
        dueCrossed("a spike", 102, 0, 0, 4, 0, 4, 3, 4, 1, 0, 1);
        dueCrossed("a corner on an edge", 2, 0, 0, 4, 0, 4, 2, 2, 0, 0, 2);
        dueCrossed("the last edge back on the first", 2, 0, 0, 4, 0, 4, 4, 2, 0);
        dueCrossed("edges over one another", 2, 0, 0, 4, 0, 4, 2, 3, 0, 1, 0, 0, 2);
        dueCrossed("edges 1 and 11", 111, 0, 0, 10, 0, 10, 1, 9, 3, 8, 4, 7, 5, 6, 6, 5, 7, 4, 8, 4, 10, 12, 10, 11, 0.5);
        Bench b = new Bench();
        b.box(0, 0, -9, -9, 9, 9);
        b.draw(0, 0, 2, 2, 2, 0, 0, 2);
        Bench.due("10 crossed ahead of over", b.map.close(0, 0), -203);
    }

    private static void dueOver(String what, boolean over, double[] one, double[] two) {
        for (int turn = 0; turn < 2; turn++) {
            Bench b = new Bench();
            b.box(0, 0, -90, -90, -80, -80);
            b.close(0, 0, turn == 0 ? one : two);
            b.draw(turn == 0 ? two : one);
            Bench.due("10 " + what + ", turn " + turn, b.map.close(0, 0), over ? -204 : 2);
            Bench.due("11 " + what + ", turn " + turn, b.map.where(), over ? 1 : 0);
        }
    }

    private static double[] box(double x, double y, double x2, double y2) {
        return new double[] {x, y, x2, y, x2, y2, x, y2};
    }

    private static void over() {
        double[] unit = box(0, 0, 4, 4);
        dueOver("the same", true, unit, unit);
        dueOver("the same, turned", true, unit, new double[] {4, 4, 4, 0, 0, 0, 0, 4});
        dueOver("the same land, more corners", true, unit, new double[] {0, 0, 2, 0, 4, 0, 4, 4, 1, 4, 0, 4});
        dueOver("edges cross", true, unit, box(2, 2, 6, 6));
        dueOver("a cross", true, box(0, 2, 6, 4), box(2, 0, 4, 6));
        dueOver("one in the other", true, unit, box(1, 1, 2, 2));
        dueOver("one in the other, at an edge", true, unit, box(0, 1, 2, 2));
        dueOver("halves over one another", true, box(0, 0, 4, 4), box(2, 0, 6, 4));
        dueOver("corners on corners, turned", true, unit, new double[] {0, 0, 4, 0, 4, 4});
        dueOver("through two corners", true, unit, new double[] {-1, -1, 5, 5, -1, 5});
        dueOver("diamond on the edges' middles", true, unit, new double[] {2, 0, 4, 2, 2, 4, 0, 2});
        dueOver("diamond out of the edges' middles", true, unit, new double[] {2, -1, 5, 2, 2, 5, -1, 2});
        double[] bay = {0, 0, 6, 0, 6, 6, 4, 6, 4, 2, 2, 2, 2, 6, 0, 6};
        dueOver("fills a bay", false, bay, box(2, 2, 4, 6));
        dueOver("in a bay", false, bay, box(2.5, 3, 3.5, 9));
        dueOver("past the foot of a bay", true, bay, box(2, 1.5, 4, 6));
        dueOver("over a bay from edge to edge", true, bay, box(1, 4, 5, 5));
        dueOver("from wall to wall of a bay", false, bay, box(2, 4, 4, 5));
        dueOver("from corner to corner of a bay", false, bay, new double[] {2, 6, 3, 4, 4, 6});
        dueOver("across the bay's corners and on", true, bay, new double[] {2, 6, 4, 6, 5, 5});
        double[] star = {0, 0, 2, 1, 4, 0, 3, 2, 4, 4, 2, 3, 0, 4, 1, 2};
        dueOver("a diamond in a star", true, star, new double[] {2, 1, 3, 2, 2, 3, 1, 2});
        dueOver("a fang at a star", false, star, new double[] {0, 0, 2, 1, 4, 0, 2, -3});
    }

    private static void overExactly() {
        double up = Math.nextUp(0.1), down = Math.nextDown(0.1), most = 0x1p28;
        double[] under = {0, 0, most, 0, most, most};
        dueOver("a bit over the line", true, under, new double[] {0.1, down, 1, 50, 0, 50});
        dueOver("on the line", false, under, new double[] {0.1, 0.1, 1, 50, 0, 50});
        dueOver("a bit short of the line", false, under, new double[] {0.1, up, 1, 50, 0, 50});
    }

    private static void touching() {
        double[] unit = box(0, 0, 4, 4);
        dueOver("an edge in common", false, unit, box(4, 0, 8, 4));
        dueOver("part of an edge in common", false, unit, box(4, 1, 8, 6));
        dueOver("a corner in common", false, unit, box(4, 4, 8, 8));
        dueOver("a corner on an edge", false, unit, new double[] {4, 2, 6, 0, 6, 4});
        dueOver("apart", false, unit, box(5, 0, 8, 4));
        dueOver("frames over, land apart", false, new double[] {0, 0, 4, 0, 0, 4}, new double[] {4, 4, 3, 4, 4, 3});
    }

    private static void full() {
        Bench b = new Bench();
        for (int i = 0; i < 60; i++) {
            Bench.due("10 parcel " + i, b.close(i % 4, i, i, 0, i + 1, 0, i, 1), i);
        }
        b.map.drop(7);
        b.draw(0, 5, 1, 5, 0, 6);
        Bench.due("10 full, no number twice", b.map.close(0, 0), -104);
        Bench.due("10 outside ahead of full", b.map.close(9, 0), -102);
        b.draw(0, 5, 1, 5);
        Bench.due("10 full ahead of few", b.map.close(0, 0), -104);
        Bench.due("10 where untouched by full", b.map.where(), 0);
        Bench.due("10 sixty made", b.map.count(2), 60);
        Bench.due("10 fifty-nine there", b.map.count(1), 59);
    }

    private static void where() {
        Bench b = new Bench();
        b.draw(0, 0, 1, 0);
        b.map.close(0, 0);
        Bench.due("11 told", b.map.where(), 2);
        b.box(0, 0, 0, 0, 1, 1);
        Bench.due("11 stays after success", b.map.where(), 2);
        b.map.close(9, 9);
        b.map.split(0, 0, 1, 0);
        b.map.drop(5);
        Bench.due("11 stays after other refusals", b.map.where(), 2);
        b.box(0, 0, 2, 0, 3, 1);
        b.draw(-1, -1, 5, -1, 5, 5, -1, 5);
        Bench.due("10 over two", b.map.close(0, 0), -204);
        Bench.due("11 the least parcel", b.map.where(), 0);
        b.map.drop(0);
        Bench.due("10 over one", b.map.close(0, 0), -204);
        Bench.due("11 not one that is gone", b.map.where(), 1);
        Bench.due("10 not over another layer's", b.map.close(1, 0), 2);
    }
}
