/**
 * Long runs of calls, wrong ones among them: each answer is compared with that of PlainRanks, and each object is
 * used for the 512 calls that the document grants.
 */
public final class LongRunsTest {
    private static final int RUNS = 400;
    private static final int CALLS = 512;
    private static final int KINDS = 21;
    private static final int DIGEST = 20;

    private static final Checks checks = new Checks();
    private static long seed = 20261120L;

    public static void main(String[] args) {
        for (int run = 0; run < RUNS; run++) {
            compare(run);
        }
        checks.end();
    }

    private static void compare(int run) {
        BellRanks real = new BellRanks();
        PlainRanks plain = new PlainRanks();
        // Few changes of bells in most of the runs, so that books and methods grow full.
        boolean settled = run % 4 != 0;
        int call = 0;
        if (settled) {
            int bells = 2 + run % 7;
            checks.same("setBells", real.setBells(bells), plain.setBells(bells));
            call++;
        }
        for (; call < CALLS; call++) {
            int kind = below(KINDS);
            if (kind == 0 && settled && below(40) > 0 || kind == 8 && below(4) > 0) {
                kind = DIGEST;
            }
            int a = argument(kind, plain);
            int b = second(kind, plain);
            Object got = Checks.outcome(call(real, kind, a, b));
            Object due = Checks.outcome(call(plain, kind, a, b));
            checks.same("run " + run + ", call " + call + ", kind " + kind + "(" + a + ", " + b + ")", got, due);
        }
    }

    private static Checks.Call call(BellRanks x, int kind, int a, int b) {
        switch (kind) {
            case 0: return () -> x.setBells(a);
            case 1: return () -> x.write(a);
            case 2: return () -> x.swap(a, b);
            case 3: return () -> x.next(a);
            case 4: return () -> x.behind(a, b);
            case 5: return () -> x.back(a);
            case 6: return () -> x.repeat(a, b);
            case 7: return () -> x.step(a);
            case 8: return () -> x.clear();
            case 9: return () -> x.ring(a, b);
            case 10: return () -> x.bell(a, b);
            case 11: return () -> x.told(a, b);
            case 12: return () -> x.round(a, b);
            case 13: return () -> x.apart(a, b);
            case 14: return () -> x.count(a);
            case 15: return () -> x.kept(a);
            case 16: return () -> x.comes(a);
            case 17: return () -> x.differ(a);
            case 18: return () -> x.advise(a);
            case 19: return () -> x.mean();
            default: return () -> x.digest();
        }
    }

    private static Checks.Call call(PlainRanks x, int kind, int a, int b) {
        switch (kind) {
            case 0: return () -> x.setBells(a);
            case 1: return () -> x.write(a);
            case 2: return () -> x.swap(a, b);
            case 3: return () -> x.next(a);
            case 4: return () -> x.behind(a, b);
            case 5: return () -> x.back(a);
            case 6: return () -> x.repeat(a, b);
            case 7: return () -> x.step(a);
            case 8: return () -> x.clear();
            case 9: return () -> x.ring(a, b);
            case 10: return () -> x.bell(a, b);
            case 11: return () -> x.told(a, b);
            case 12: return () -> x.round(a, b);
            case 13: return () -> x.apart(a, b);
            case 14: return () -> x.count(a);
            case 15: return () -> x.kept(a);
            case 16: return () -> x.comes(a);
            case 17: return () -> x.differ(a);
            case 18: return () -> x.advise(a);
            case 19: return () -> x.mean();
            default: return () -> x.digest();
        }
    }

    private static int argument(int kind, PlainRanks plain) {
        if (below(60) == 0) {
            return wild();
        }
        switch (kind) {
            case 0: return 1 + below(9);
            case 1: return below(plain.count(1) + plain.count(1) / 20 + 1);
            case 7: return step(plain.count(0));
            case 14: return around(6);
            case 15: return around(plain.count(4));
            case 17: return below(3) == 0 ? below(203) : 1 + below(30);
            default: return around(plain.count(2));
        }
    }

    private static int second(int kind, PlainRanks plain) {
        if (below(60) == 0) {
            return wild();
        }
        switch (kind) {
            case 2: return around(plain.count(0) - 1);
            case 6: return below(4) == 0 ? below(10010) : below(20);
            case 9: return below(4) == 0 ? below(203) : 1 + below(20);
            case 10: return around(plain.count(0));
            case 11: return around(8);
            case 12: return around(plain.count(0));
            default: return around(plain.count(2));
        }
    }

    /** Mostly a step that there is: pairs and kept places from the first place on. */
    private static int step(int bells) {
        if (below(4) == 0) {
            return below(2 << bells);
        }
        int kept = 0;
        int place = 0;
        while (place < bells) {
            if (place + 1 < bells && below(3) > 0) {
                place += 2;
            } else {
                kept |= 1 << place;
                place++;
            }
        }
        return kept;
    }

    private static int around(int bound) {
        return below(20) == 0 ? below(bound + 3) - 1 : below(Math.max(1, bound));
    }

    private static int wild() {
        int[] some = {-1, -2, 16, 255, 256, 100000, Integer.MAX_VALUE, Integer.MIN_VALUE, 9999, 10000, 40320};
        return some[below(some.length)];
    }

    /** The same numbers in each run of the test. */
    private static int below(int bound) {
        seed = seed * 6364136223846793005L + 1442695040888963407L;
        return (int) ((seed >>> 33) % bound);
    }
}
