/** Random runs of 512 calls: each answer, and all that the object shows, beside the model's. */
public final class RandomRunsTest {
    private static long seed;

    private static int below(int n) {
        seed = seed * 6364136223846793005L + 1442695040888963407L;
        return (int) Math.floorMod(seed >>> 33, (long) n);
    }

    /** Weights of a run: how often each call comes, so that runs differ in kind. */
    private static int[] weights(int style) {
        return switch (style) {
            // ask retry learn deliver-first deliver-any lose twice sync crash decide wrong
            case 0 -> new int[] {20, 1, 2, 70, 10, 0, 0, 2, 0, 0, 1};
            case 1 -> new int[] {20, 4, 6, 20, 60, 2, 4, 4, 1, 2, 1};
            case 2 -> new int[] {20, 4, 8, 10, 80, 1, 8, 8, 0, 2, 1};
            case 3 -> new int[] {20, 20, 10, 2, 20, 1, 20, 20, 1, 1, 1};
            case 4 -> new int[] {20, 4, 10, 40, 40, 1, 2, 6, 2, 3, 1};
            default -> new int[] {20, 1, 8, 90, 15, 1, 1, 3, 0, 1, 0};
        };
    }

    private static int pick(int[] weights) {
        int all = 0;
        for (int weight : weights) {
            all += weight;
        }
        int left = below(all);
        int chosen = 0;
        while (left >= weights[chosen]) {
            left -= weights[chosen];
            chosen++;
        }
        return chosen;
    }

    private static void step(OneTrip x, PlainModel m, int[] weights, int keys) {
        int a = below(4);
        int what = below(3);
        int key = below(keys);
        int v = below(8) == 0 ? Integer.MAX_VALUE - below(2) : below(100) - 50;
        int n = x.count(0);
        int k = n == 0 ? below(3) - 1 : below(n);
        int e = below(3) == 0 ? below(x.count(1)) : x.count(1) - 1;
        int b = below(x.count(5));
        int w = below(x.count(5));
        switch (pick(weights)) {
            case 0 -> both("ask", () -> x.ask(a, what, key, v), () -> m.ask(a, what, key, v));
            case 1 -> both("retry", () -> Check.asBit(x.retry(a)), () -> Check.asBit(m.retry(a)));
            case 2 -> both("learn", () -> x.learn(a), () -> m.learn(a));
            case 3 -> both("deliver", () -> x.deliver(0), () -> m.deliver(0));
            case 4 -> both("deliver", () -> x.deliver(k), () -> m.deliver(k));
            case 5 -> both("lose", () -> x.lose(k), () -> m.lose(k));
            case 6 -> both("twice", () -> x.twice(k), () -> m.twice(k));
            case 7 -> both("sync", () -> Check.asBit(x.sync(e)), () -> Check.asBit(m.sync(e)));
            case 8 -> both("crash", () -> Check.asBit(x.crash(e)), () -> Check.asBit(m.crash(e)));
            case 9 -> both("decide", () -> x.decide(b, w), () -> m.decide(b, w));
            default -> wrong(x, m, below(9), below(2) == 0 ? -1 : 250 + below(3));
        }
    }

    private static void wrong(OneTrip x, PlainModel m, int call, int bad) {
        switch (call) {
            case 0 -> both("ask", () -> x.ask(bad, 0, 0, 0), () -> m.ask(bad, 0, 0, 0));
            case 1 -> both("ask", () -> x.ask(0, bad, 0, 0), () -> m.ask(0, bad, 0, 0));
            case 2 -> both("ask", () -> x.ask(0, 0, bad, 0), () -> m.ask(0, 0, bad, 0));
            case 3 -> both("retry", () -> Check.asBit(x.retry(bad)), () -> Check.asBit(m.retry(bad)));
            case 4 -> both("learn", () -> x.learn(bad), () -> m.learn(bad));
            case 5 -> both("deliver", () -> x.deliver(bad), () -> m.deliver(bad));
            case 6 -> both("sync", () -> Check.asBit(x.sync(bad)), () -> Check.asBit(m.sync(bad)));
            case 7 -> both("decide", () -> x.decide(bad, 0), () -> m.decide(bad, 0));
            default -> both("decide", () -> x.decide(0, bad), () -> m.decide(0, bad));
        }
    }

    private static void both(String call, Check.Call real, Check.Call model) {
        Check.same(call, Check.outcome(real), Check.outcome(model));
    }

    public static void main(String[] args) {
        int runs = args.length > 0 ? Integer.parseInt(args[0]) : 300;
        long[] seen = new long[6];
        for (int run = 0; run < runs; run++) {
            seed = run * 7919L + 17;
            int f = below(5);
            int sets = below(6);
            int ways = below(6);
            int batch = below(12);
            OneTrip x = new OneTrip(f, sets, ways, batch);
            PlainModel m = new PlainModel(f, sets, ways, batch);
            int[] weights = weights(run % 6);
            int keys = 1 + below(16);
            for (int call = 0; call < 512; call++) {
                step(x, m, weights, keys);
                Check.same("run " + run + ", all behind call " + call, Check.shows(x), m.shows());
            }
            for (int c = 0; c < 4; c++) {
                seen[0] += x.client(c, 6);
            }
            seen[1] += x.count(3);
            seen[2] += x.count(1);
            seen[3] += x.count(4);
            seen[4] += x.audit();
            seen[5] += x.count(2);
        }
        System.out.println("asked for " + seen[5] + ", done " + seen[1] + ", by accepts " + seen[0]
                + ", epochs " + seen[2] + ", letters too many " + seen[3] + ", audits that failed "
                + seen[4]);
        Check.close("RandomRunsTest");
    }
}
