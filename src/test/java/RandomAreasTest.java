import java.util.Random;

/** Areas of all sizes beside one another, with fixed seeds: what is told of them against the Oracle's. */
public final class RandomAreasTest {
    public static void main(String[] args) {
        int runs = args.length > 0 ? Integer.parseInt(args[0]) : 60;
        for (int seed = 0; seed < runs; seed++) {
            run(new Random(seed), "seed " + seed + ": ");
        }
        Bench.end();
    }

    private static void run(Random random, String seed) {
        ParcelMap map = new ParcelMap();
        Oracle oracle = new Oracle();
        int many = 2 + random.nextInt(20);
        int kind = random.nextInt(3);
        for (int i = 0; i < many; i++) {
            long left = Double.doubleToRawLongBits(1000 * i);
            long right = Double.doubleToRawLongBits(1000 * i + size(random, kind));
            long top = Double.doubleToRawLongBits(size(random, kind));
            long[][] ring = {{left, 0}, {right, 0}, {left, top}};
            for (long[] c : ring) {
                int number = map.corner(c[0], c[1]);
                Bench.due(seed + "corner", number, oracle.corner(c[0], c[1]));
                map.add(number);
                oracle.add(number);
            }
            int layer = random.nextInt(8) == 0 ? 1 : 0;
            Bench.due(seed + "close", map.close(layer, 0), oracle.close(layer, 0));
        }
        for (int i = 0; i < 60; i++) {
            int p = random.nextInt(many);
            int q = random.nextInt(many);
            int n = random.nextInt(4) == 0 ? random.nextInt(1001) : random.nextInt(40);
            Bench.due(seed + "twice " + p, map.twice(p), oracle.twice(p));
            Bench.due(seed + "compare " + p + ", " + q, map.compare(p, q), oracle.compare(p, q));
            Bench.due(seed + "quota " + p + ", " + n, map.quota(p, n), oracle.quota(p, n));
        }
    }

    /** Sizes below 1000: of all scales, of one scale, or but for a last bit the same. */
    private static double size(Random random, int kind) {
        switch (kind) {
            case 0: return Math.max(0x1p-20, 900 * random.nextDouble() / (1L << random.nextInt(28)));
            case 1: return 100 + 800 * random.nextDouble();
            default: return 700 + random.nextInt(3) * Math.ulp(700.0);
        }
    }
}
