import java.util.ArrayList;
import java.util.List;
import java.util.Random;

/** Long runs of calls with fixed seeds, each answer held against the Oracle's. */
public final class RandomRunsTest {
    private static final int CALLS = 512;
    private static int wrong = 0;
    private static final int[] tally = new int[64];

    private final Random random;
    private final int kind;
    private final boolean building;
    private final ParcelMap map = new ParcelMap();
    private final Oracle oracle = new Oracle();
    private final List<String> calls = new ArrayList<>();
    private boolean failed = false;

    private RandomRunsTest(long seed) {
        random = new Random(seed);
        kind = (int) (seed % 7);
        building = seed / 7 % 2 == 1;
    }

    public static void main(String[] args) {
        int from = args.length > 0 ? Integer.parseInt(args[0]) : 0;
        int to = args.length > 1 ? Integer.parseInt(args[1]) : 240;
        for (int seed = from; seed < to && wrong < 5; seed++) {
            new RandomRunsTest(seed).run(seed);
        }
        if (args.length > 2) {
            tell();
        }
        System.out.println(wrong == 0 ? "all answers are as the oracle's" : wrong + " runs went wrong");
        if (wrong != 0) {
            System.exit(1);
        }
    }

    private static final String[] TOLD = {"closed", "FEW", "TWICE", "CROSSED", "OVER", "split", "split apart",
        "joined", "join apart", "join few", "join twice", "join crossed", "moved", "move over", "move crossed",
        "located", "on edge", "walked", "full", "unsure sides", "nonzero unsure sides"};

    private static void tell() {
        for (int i = 0; i < TOLD.length; i++) {
            System.out.println(TOLD[i] + ": " + tally[i]);
        }
    }

    private void run(int seed) {
        try {
            while (calls.size() < CALLS && !failed) {
                step();
            }
        } catch (RuntimeException thrown) {
            failed = true;
            System.out.println("thrown: " + thrown);
            thrown.printStackTrace(System.out);
        }
        if (failed) {
            wrong++;
            System.out.println("seed " + seed + ", kind " + kind + ", after " + calls.size() + " calls: "
                    + calls.get(calls.size() - 1));
        }
    }

    private long due(String call, long got, long want) {
        calls.add(call + " answered " + got + ", due is " + want);
        failed = failed || got != want;
        return want;
    }

    // ---- what is asked

    private void step() {
        int dice = random.nextInt(100);
        if (building && oracle.corners.size() >= 16) {
            // Mostly changes, in one layer, so that parcels lie close and numbers run out.
            dice = dice < 80 ? 26 : dice < 90 ? 20 : dice;
        }
        if (oracle.corners.size() < (building ? 16 : 12) || (dice < 8 && oracle.corners.size() < 60)) {
            makeCorner();
        } else if (dice < 26) {
            drawRing();
        } else if (dice < 40) {
            changeParcel();
        } else if (dice < 55) {
            askCorners();
        } else if (dice < 70) {
            askParcels();
        } else if (dice < 88) {
            askPlaces();
        } else {
            askWhole();
        }
    }

    private void makeCorner() {
        long x = number();
        long y = number();
        if (kind == 3 && random.nextInt(3) > 0) {
            // Nearly in line with the others: a step of the last bit off the line y = x.
            y = x + random.nextInt(3) - 1;
        }
        due("corner(" + x + ", " + y + ")", map.corner(x, y), oracle.corner(x, y));
    }

    private long number() {
        if (random.nextInt(60) == 0) {
            long[] odd = {Double.doubleToRawLongBits(Double.NaN), 1L, Long.MIN_VALUE, -1L,
                Double.doubleToRawLongBits(0x1p-20), Double.doubleToRawLongBits(0x1p-20) - 1,
                Double.doubleToRawLongBits(0x1p28), Double.doubleToRawLongBits(0x1p28) + 1,
                Double.doubleToRawLongBits(-0x1p28), Double.doubleToRawLongBits(-0x1p28) + 1,
                Double.doubleToRawLongBits(Double.POSITIVE_INFINITY), random.nextLong()};
            return odd[random.nextInt(odd.length)];
        }
        switch (kind) {
            case 0: return Double.doubleToRawLongBits(random.nextInt(5));
            case 1: return Double.doubleToRawLongBits(random.nextInt(9) - 4);
            case 2: return Double.doubleToRawLongBits(0.1 * (random.nextInt(13) - 6));
            case 3: return Double.doubleToRawLongBits(1 + random.nextInt(8) / 3.0);
            case 4: return Double.doubleToRawLongBits((random.nextDouble() * 2 - 1) * 0x1p28);
            case 5: return wild();
            default: return tiny();
        }
    }

    private long wild() {
        double[] some = {0, 0x1p-20, 0x1.0000000000001p-20, 0x1p28, 0x1.fffffffffffffp27, 1, 0x1.0000000000001p0,
            0x1p-19, 3, 1e-3, 12345.678, 0x1p27};
        double v = some[random.nextInt(some.length)];
        return Double.doubleToRawLongBits(random.nextBoolean() ? v : -v);
    }

    /** Numbers whose last bits are the last that there are. */
    private long tiny() {
        long ulps = random.nextInt(3) == 0 ? random.nextInt(4) : random.nextLong() & ((1L << 53) - 1);
        long bits = Double.doubleToRawLongBits(0x1p-20) + ulps;
        return random.nextInt(6) == 0 ? 0 : random.nextBoolean() ? bits : bits | Long.MIN_VALUE;
    }

    /** Now and then, in place of a fair argument, one that is far off. */
    private int odd(int fair) {
        int[] far = {Integer.MIN_VALUE, Integer.MAX_VALUE, Integer.MIN_VALUE + 1, Integer.MAX_VALUE - 2, -1, 200, 60};
        return random.nextInt(80) == 0 ? far[random.nextInt(far.length)] : fair;
    }

    private int anyCorner() {
        int n = oracle.corners.size();
        return odd(random.nextInt(40) == 0 ? random.nextInt(n + 4) - 2 : random.nextInt(n));
    }

    private int anyParcel() {
        if (oracle.made == 0 || random.nextInt(40) == 0) {
            return odd(random.nextInt(oracle.made + 4) - 2);
        }
        if (oracle.lands.isEmpty() || random.nextInt(12) == 0) {
            return random.nextInt(oracle.made);
        }
        List<Integer> there = new ArrayList<>(oracle.lands.keySet());
        return odd(there.get(random.nextInt(there.size())));
    }

    private int anyLayer() {
        if (building && random.nextInt(30) > 0) {
            return 0;
        }
        return odd(random.nextInt(30) == 0 ? random.nextInt(8) - 2 : random.nextInt(5) % 2 * random.nextInt(3));
    }

    private void drawRing() {
        if (random.nextInt(4) > 0) {
            due("draw()", map.draw(), oracle.draw());
        }
        List<Integer> ring = random.nextInt(2) == 0 ? star() : handful();
        for (int c : ring) {
            due("add(" + c + ")", map.add(c), oracle.add(c));
        }
        int layer = anyLayer();
        int owner = random.nextInt(9) - 4;
        long got = due("close(" + layer + ", " + owner + ")", map.close(layer, owner), oracle.close(layer, owner));
        tally[got >= 0 ? 0 : got == Oracle.FULL ? 18 : got <= -201 ? (int) (-200 - got) : 63]++;
        if (got < 0) {
            due("where()", map.where(), oracle.where());
        }
    }

    private List<Integer> handful() {
        List<Integer> ring = new ArrayList<>();
        int n = random.nextInt(12) == 0 ? random.nextInt(22) : 3 + random.nextInt(3);
        for (int i = 0; i < n; i++) {
            ring.add(anyCorner());
        }
        return ring;
    }

    /** Corners round about a middle, so that longer rings come off. */
    private List<Integer> star() {
        List<Integer> ring = new ArrayList<>();
        int n = 4 + random.nextInt(9);
        double mx = 0;
        double my = 0;
        for (int i = 0; i < n; i++) {
            int c = random.nextInt(oracle.corners.size());
            if (!ring.contains(c)) {
                ring.add(c);
                mx += x(c);
                my += y(c);
            }
        }
        final double cx = mx / ring.size() + 1e-4;
        final double cy = my / ring.size() + 1e-5;
        int turn = random.nextBoolean() ? 1 : -1;
        ring.sort((a, b) -> turn * Double.compare(Math.atan2(y(a) - cy, x(a) - cx), Math.atan2(y(b) - cy, x(b) - cx)));
        return ring;
    }

    private double x(int c) {
        return Double.longBitsToDouble(oracle.corners.get(c).xBits());
    }

    private double y(int c) {
        return Double.longBitsToDouble(oracle.corners.get(c).yBits());
    }

    private void changeParcel() {
        if (building && oracle.lands.size() < 2) {
            drawRing();
        }
        int p = anyParcel();
        int q = random.nextInt(3) > 0 ? oracle.neighbour(p, random.nextInt(3)) : anyParcel();
        int i = random.nextInt(6) - (random.nextInt(20) == 0 ? 2 : 0);
        int j = i + random.nextInt(8) - (random.nextInt(20) == 0 ? 2 : 0);
        int size = oracle.told(p, 2);
        if (building && size > 3 && random.nextInt(8) > 0) {
            i = random.nextInt(size - 2);
            j = i + 2 + random.nextInt(size - i - 2);
        }
        i = odd(i);
        j = odd(j);
        int owner = random.nextInt();
        int c = anyCorner();
        long got;
        switch (random.nextInt(10)) {
            case 0:
                due("give(" + p + ", " + owner + ")", map.give(p, owner), oracle.give(p, owner));
                break;
            case 1:
                due("drop(" + p + ")", map.drop(p), oracle.drop(p));
                break;
            case 2: case 3: case 4:
                got = due("split(" + p + ", " + i + ", " + j + ", " + owner + ")",
                        map.split(p, i, j, owner), oracle.split(p, i, j, owner));
                tally[got >= 0 ? 5 : got == Oracle.APART ? 6 : got == Oracle.FULL ? 18 : 63]++;
                break;
            case 5: case 6: case 7:
                got = due("join(" + p + ", " + q + ")", map.join(p, q), oracle.join(p, q));
                tally[got >= 0 ? 7 : got == Oracle.APART ? 8 : got == Oracle.FEW ? 9 : got == Oracle.TWICE ? 10
                        : got == Oracle.CROSSED ? 11 : 63]++;
                break;
            case 8:
                got = due("move(" + p + ", " + i + ", " + c + ")", map.move(p, i, c), oracle.move(p, i, c));
                tally[got >= 0 ? 12 : got == Oracle.OVER ? 13 : got == Oracle.CROSSED ? 14 : 63]++;
                break;
            default:
                due("undo()", map.undo(), oracle.undo());
                break;
        }
        if (!building || random.nextInt(4) == 0) {
            due("where()", map.where(), oracle.where());
            due("digest()", map.digest(), oracle.digest());
        }
    }

    private void askCorners() {
        int a = anyCorner();
        int b = anyCorner();
        int c = anyCorner();
        int d = anyCorner();
        int axis = random.nextInt(20) == 0 ? random.nextInt(5) - 1 : random.nextInt(2);
        due("at(" + a + ", " + axis + ")", map.at(a, axis), oracle.at(a, axis));
        long side = due("side(" + a + ", " + b + ", " + c + ")", map.side(a, b, c), oracle.side(a, b, c));
        long sure = due("sure()", map.sure(), oracle.sure());
        tally[sure == 0 ? side != 0 ? 20 : 19 : 63]++;
        due("cross(" + a + ", " + b + ", " + c + ", " + d + ")", map.cross(a, b, c, d), oracle.cross(a, b, c, d));
        long x = number();
        long y = number();
        due("nearest(" + x + ", " + y + ")", map.nearest(x, y), oracle.nearest(x, y));
    }

    private void askParcels() {
        int p = anyParcel();
        int q = random.nextInt(3) > 0 ? oracle.neighbour(p, random.nextInt(3)) : anyParcel();
        int what = odd(random.nextInt(18) - 1);
        int k = odd(random.nextInt(5) - 1);
        int n = random.nextInt(10) == 0 ? odd(random.nextInt(1200) - 100) : random.nextInt(30);
        due("told(" + p + ", " + what + ")", map.told(p, what), oracle.told(p, what));
        due("border(" + p + ", " + q + ")", map.border(p, q), oracle.border(p, q));
        due("neighbour(" + p + ", " + k + ")", map.neighbour(p, k), oracle.neighbour(p, k));
        due("twice(" + p + ")", map.twice(p), oracle.twice(p));
        due("compare(" + p + ", " + q + ")", map.compare(p, q), oracle.compare(p, q));
        due("quota(" + p + ", " + n + ")", map.quota(p, n), oracle.quota(p, n));
    }

    private void askPlaces() {
        int layer = anyLayer();
        int a = anyCorner();
        int b = anyCorner();
        int k = odd(random.nextInt(5) - 1);
        long x = number();
        long y = number();
        long got = due("locate(" + layer + ", " + x + ", " + y + ")", map.locate(layer, x, y), oracle.locate(layer, x, y));
        tally[got >= 0 ? 15 : 63]++;
        tally[due("edge()", map.edge(), oracle.edge()) >= 0 ? 16 : 63]++;
        String walk = "walk(" + layer + ", " + a + ", " + b + ", " + k + ")";
        tally[due(walk, map.walk(layer, a, b, k), oracle.walk(layer, a, b, k)) >= 0 ? 17 : 63]++;
    }

    private void askWhole() {
        int layer = anyLayer();
        int what = odd(random.nextInt(10) - 1);
        int n = (int) due("hull(" + layer + ")", map.hull(layer), oracle.hull(layer));
        int k = odd(random.nextInt(Math.max(1, n) + 2) - 1);
        due("hullAt(" + k + ")", map.hullAt(k), oracle.hullAt(k));
        due("count(" + what + ")", map.count(what), oracle.count(what));
        due("digest()", map.digest(), oracle.digest());
    }
}
