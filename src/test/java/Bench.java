/** A map under test, with corners told as doubles, and the tally of wrong answers. */
final class Bench {
    private static int wrong = 0;

    final ParcelMap map = new ParcelMap();

    static long bits(double v) {
        return Double.doubleToRawLongBits(v);
    }

    int corner(double x, double y) {
        return map.corner(bits(x), bits(y));
    }

    int nearest(double x, double y) {
        return map.nearest(bits(x), bits(y));
    }

    int locate(int layer, double x, double y) {
        return map.locate(layer, bits(x), bits(y));
    }

    /** Draws a ring anew through points x, y, x, y, .. without closing it. */
    void draw(double... xy) {
        map.draw();
        for (int i = 0; i + 1 < xy.length; i += 2) {
            map.add(corner(xy[i], xy[i + 1]));
        }
    }

    int close(int layer, int owner, double... xy) {
        draw(xy);
        return map.close(layer, owner);
    }

    /** A box from (x, y) to (x2, y2). */
    int box(int layer, int owner, double x, double y, double x2, double y2) {
        return close(layer, owner, x, y, x2, y, x2, y2, x, y2);
    }

    /** The corners of a parcel are those at x, y, x, y, .. in this order. */
    void dueRing(String what, int p, double... xy) {
        due(what + ", how many corners", map.told(p, 2), xy.length / 2);
        for (int i = 0; i < xy.length / 2; i++) {
            due(what + ", corner " + i, map.told(p, 3 + i), corner(xy[2 * i], xy[2 * i + 1]));
        }
    }

    static void due(String what, long got, long want) {
        if (got != want) {
            wrong++;
            System.out.println(what + " answered " + got + ", due is " + want);
        }
    }

    static void end() {
        System.out.println(wrong == 0 ? "all answers are as due" : wrong + " answers are not as due");
        if (wrong != 0) {
            System.exit(1);
        }
    }
}
