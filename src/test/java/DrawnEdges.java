/** Promises 17 and 18; the terms on RAIN that is DRAWN. */
final class DrawnEdges extends Part {
    private static final int MAX = Integer.MAX_VALUE, MIN = Integer.MIN_VALUE;

    DrawnEdges(Edges e) {
        super(e);
    }

    @Override
    void all() {
        drawn();
        rainThatIsDrawn();
        gainByNumbers();
        chance();
        chanceNo();
        inSeeds();
        kOrMore();
    }

    private static long[] rainBy(int seed) {
        long[] rain = new long[48];
        long z = seed & 0xffffffffL;
        for (int i = 0; i < 48; i++) {
            z = (z * 1103515245L + 12345L) & 0xffffffffL;
            long much = z / 512 % 10;
            rain[i] = much < 4 ? 0 : much;
        }
        return rain;
    }

    private void drawn() {
        e.promise(17, "DRAWN.");
        e.run().due("drawn(0)", 0);
        e.run().due("drawn(MIN)", 0);
        Run x = e.run();
        x.rain(0, WET);
        x.call("bargain(0, 0, 0)");
        x.call("set(4, 0, 1)");
        x.due("drawn(MAX)", 0);
        // it only would be so: neither RAIN nor what was SHAKEN on is otherwise then
        long once = e.run(Busy::market).call("drawn(-1)");
        e.unchanged(Busy::market, "drawn(-1)", once);
    }

    private void rainThatIsDrawn() {
        e.terms("DRAWN by a SEED: RAIN of STREET 0 in HOURS 0 .. 23, then of STREET 1, would be (z >>> 9) % 10, but 0, if that is below 4,"
            + " z being z * 1103515245 + 12345 (an int; SEED at first) anew for each:");
        int[] seeds = {0, 1, -1, 3, MAX, MIN};
        for (int seed : seeds) {
            Run x = e.run();
            x.call("bargain(0, 0, 0)");
            // but in one HOUR, told by NUMBER and WEST, it TAKES the whole day
            x.rule("1", "24-23*(hour=10*number+west)", "rain");
            long[] rain = rainBy(seed);
            for (int i = 0; i < 48; i++) {
                x.call("set(3, 0, " + i / 24 + ")");
                x.call("set(2, 0, " + i % 24 / 10 + ")");
                x.call("set(0, 0, " + i % 24 % 10 + ")");
                x.due("drawn(" + seed + ")", rain[i]);
            }
        }
        long seen = 0;
        for (long much : rainBy(0)) {
            seen |= 1L << much;
        }
        e.is("drawn are 0 and 4 .. 9", seen, 1023 - 2 - 4 - 8);
    }

    private void gainByNumbers() {
        e.terms("GAIN of the TOUR of all that aren't SHAKEN on, by numbers.");
        Run x = e.run();
        for (int b = 0; b < 6; b++) {
            x.call("bargain(0, " + (6 - b) + ", 0)");
        }
        x.rule("1", "1", "number*done");
        // NUMBERS 6 .. 1, 0 .. 5 done ahead: by the BARGAINS' numbers, neither by NUMBERS nor the best
        x.due("drawn(7)", 5 + 2 * 4 + 3 * 3 + 4 * 2 + 5);
        x.call("set(4, 0, 1)");
        x.due("drawn(7)", 5 + 2 * 4 + 3 * 3 + 4 * 2 + 5);
        x.call("set(4, 5, 1)");
        x.due("drawn(7)", 2 * 5 + 3 * 4 + 4 * 3 + 5 * 2);
        for (int b = 0; b < 6; b++) {
            x.call("set(4, " + b + ", 1)");
        }
        x.due("drawn(7)", 0);
    }

    /** One BARGAIN that is worth the RAIN of HOUR 0, if it rains then; else nothing. */
    private Run firstHour() {
        Run x = e.run();
        x.call("bargain(0, 0, 0)");
        x.rule("1", "1", "rain*(hour=0)");
        return x;
    }

    private static int above(int seed, int m, int k) {
        int n = 0;
        for (int i = 0; i < m; i++) {
            n += rainBy(seed + i)[0] >= k ? 1 : 0;
        }
        return n;
    }

    private static int lowest(int a, int b) {
        int d = b;
        while (a % d != 0 || b % d != 0) {
            d--;
        }
        return d;
    }

    private void inLowestTerms(Run x, int seed, int m, int k) {
        int above = above(seed, m, k);
        int d = lowest(above, m);
        x.due("chance(" + seed + ", " + m + ", " + k + ", 0)", above / d);
        x.due("chance(" + seed + ", " + m + ", " + k + ", 1)", m / d);
    }

    private void chance() {
        e.promise(18, "IN m seeds: part 0 above, 1 below the line, in lowest terms.");
        Run x = firstHour();
        int shortened = 0;
        for (int m = 1; m <= 20; m++) {
            inLowestTerms(x, 5, m, 1);
            inLowestTerms(x, 5, m, 6);
            shortened += lowest(above(5, m, 6), m) > 1 ? 1 : 0;
        }
        e.is("some of them can be shortened", shortened > 2 ? 1 : 0, 1);
        // all and none
        for (int m = 1; m <= 20; m += 19) {
            x.due("chance(5, " + m + ", 0, 0)", 1);
            x.due("chance(5, " + m + ", 0, 1)", 1);
            x.due("chance(5, " + m + ", 9999, 0)", 0);
            x.due("chance(5, " + m + ", 9999, 1)", 1);
        }
        long once = e.run(Busy::market).call("chance(-1, 20, 3, 0)");
        e.unchanged(Busy::market, "chance(-1, 20, 3, 0)", once);
    }

    private void chanceNo() {
        e.promise(18, "NO: m, k, part.");
        Run x = e.run();
        x.due("chance(0, 1, 0, 0)", 1);
        x.due("chance(0, 20, 9999, 1)", 1);
        for (int part = 0; part <= 1; part++) {
            refusedEach(NO, "chance(0, 0, 0, " + part + ")", "chance(0, -1, 0, " + part + ")",
                "chance(0, 21, 0, " + part + ")");
            refusedEach(NO, "chance(0, MIN, 0, " + part + ")", "chance(0, MAX, 0, " + part + ")");
            refusedEach(NO, "chance(0, 1, -1, " + part + ")", "chance(0, 1, 10000, " + part + ")");
            refusedEach(NO, "chance(0, 20, MIN, " + part + ")", "chance(0, 20, MAX, " + part + ")");
        }
        refusedEach(NO, "chance(0, 1, 0, -1)", "chance(0, 1, 0, 2)", "chance(0, 20, 9999, MIN)", "chance(0, 20, 9999, MAX)");
    }

    private void inSeeds() {
        e.terms("IN m seeds (1 .. 20), SEED and each 1 more (an int):");
        Run x = firstHour();
        for (int m = 1; m <= 20; m++) {
            inLowestTerms(x, MAX - 9, m, 5);
            inLowestTerms(x, -10, m, 5);
        }
        inLowestTerms(x, MAX, 20, 1);
        inLowestTerms(x, MIN, 20, 1);
        x.due("chance(0, 0, 1, 0)", NO);
        x.due("chance(0, 21, 1, 0)", NO);
    }

    private void kOrMore() {
        e.terms("of these those by which that is k (0 .. 9999) or more.");
        Run x = firstHour();
        for (int seed = 0; seed < 30; seed++) {
            long gain = rainBy(seed)[0];
            x.due("drawn(" + seed + ")", gain);
            x.due("chance(" + seed + ", 1, " + gain + ", 0)", 1);
            x.due("chance(" + seed + ", 1, " + (gain + 1) + ", 0)", 0);
        }
        x.due("chance(0, 1, 0, 0)", 1);
        x.due("chance(0, 1, 9999, 0)", 0);
        x.due("chance(0, 1, -1, 0)", NO);
        x.due("chance(0, 1, 10000, 0)", NO);
    }
}
