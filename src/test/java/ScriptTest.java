/** Promises 26 and 27: runScript, simulate. */
public final class ScriptTest {
    private static final int NONE = CodedColumn.NONE;
    private static final Class<IllegalArgumentException> ARGUMENT = IllegalArgumentException.class;

    private static final Expect expect = new Expect();

    public static void main(String[] args) {
        arguments();
        commands();
        chains();
        fullColumn();
        copies();
        simulate();
        simulateNear();
        expect.end();
    }

    private static int[] p(int... values) {
        return values;
    }

    private static void runs(CodedColumn x, int want, int n, long script) {
        expect.is(want, "runScript(" + n + ", " + script + ")", () -> x.runScript(n, script));
    }

    private static void arguments() {
        CodedColumn x = Build.pages(p(5));
        expect.fails(ARGUMENT, "runScript(0, 0)", () -> x.runScript(0, 0));
        expect.fails(ARGUMENT, "runScript(4, 0)", () -> x.runScript(4, 0));
        expect.fails(ARGUMENT, "runScript(-1, 0)", () -> x.runScript(-1, 0));
        expect.fails(ARGUMENT, "runScript(1, -1)", () -> x.runScript(1, -1));
        expect.fails(ARGUMENT, "runScript(3, least)", () -> x.runScript(3, Long.MIN_VALUE));
        expect.fails(ARGUMENT, "runScript(1, 1000000)", () -> x.runScript(1, 1000000L));
        expect.fails(ARGUMENT, "runScript(2, 1000000000000)", () -> x.runScript(2, 1000000000000L));
        expect.fails(ARGUMENT, "runScript(3, 10^18)", () -> x.runScript(3, 1000000000000000000L));
        expect.fails(ARGUMENT, "runScript(3, greatest)", () -> x.runScript(3, Long.MAX_VALUE));
        runs(x, 0, 1, 999999);
        runs(x, 0, 2, 999999999999L);
        runs(x, 0, 3, 999999999999999999L);
        runs(x, NONE, 3, 600000600000600000L);
        runs(x, 0, 2, 600000);
        runs(x, 0, 3, 600000);
        runs(x, 1, 2, 600000000000L);
        runs(x, 2, 3, 600000600000000000L);
        runs(x, 0, 1, 0);
    }

    /** Each command where it succeeds, and beside it where it does not. */
    private static void commands() {
        CodedColumn x = Build.pages(p(7, 7, 7), p(500, 20), p(1, 2, 3, 4, 5, 6, 7, 8, 9, 10, 11));
        long[] succeed = {100000, 101023, 200999, 215000, 200000, 300000, 315000, 400100, 400200, 421000,
            500000, 600000, 700089, 709999, 801000, 810000, 824000, 900070, 905000, 900200};
        long[] fail = {101024, 109999, 110000, 150005, 216000, 299000, 316000, 399000, 300001, 300010, 300100,
            400000, 400300, 421100, 430100, 400110, 400101, 510000, 520000, 530000, 590000, 500001, 501000,
            600001, 610000, 700088, 700000, 710089, 790089, 800000, 802000, 805000, 809000, 830000, 891000,
            801001, 801100, 900000, 904990, 909990, 910070, 900071, 1, 99999};
        for (long script : succeed) {
            runs(x, NONE, 1, script);
        }
        for (long script : fail) {
            runs(x, 0, 1, script);
        }
    }

    /** What a command has changed, the next one finds. */
    private static void chains() {
        CodedColumn x = Build.pages(p(7, 7, 7), p(500), p(20, 30));
        runs(x, NONE, 2, 100123901230L);
        runs(x, 1, 2, 100123901240L);
        runs(x, NONE, 2, 201501905010L);
        runs(x, 1, 2, 201501905020L);
        runs(x, 1, 2, 303000905000L);
        runs(x, NONE, 3, 303000900200814000L);
        runs(x, 2, 3, 303000900200824000L);
        runs(x, NONE, 3, 400200801000810000L);
        runs(x, NONE, 2, 400200834000L);
        runs(x, NONE, 2, 510000810000L);
        runs(x, 1, 2, 510000820000L);
        runs(x, 0, 2, 700063700064L);
        runs(x, NONE, 1, 700064);
        // 7 7 7 500 are 35 bits as words, 20 30 are 26 by steps.
        runs(x, NONE, 2, 600000700061L);
        runs(x, 1, 2, 600000700060L);
    }

    private static void fullColumn() {
        CodedColumn x = Build.pages(p(0), p(1), p(2), p(3), p(4), p(5), p(6), p(7), p(8), p(9, 9));
        x.setLimit(2);
        runs(x, 0, 1, 100005);
        runs(x, 0, 1, 490100);
        runs(x, NONE, 3, 500000480100890000L);
        runs(x, NONE, 3, 500000100005100005L);
        x.setLimit(1);
        runs(x, 2, 3, 500000100005100005L);
        x.setLimit(2);
        runs(x, NONE, 3, 600000100005900050L);
        runs(x, 1, 2, 300000900000L);
        runs(x, NONE, 3, 300000300000900020L);
        runs(x, 2, 3, 300000300000900010L);
        runs(x, NONE, 2, 200777907770L);
        runs(x, 1, 2, 200777900000L);
    }

    /** A script and a simulation change nothing. */
    private static void copies() {
        CodedColumn x = Build.pages(p(7), p(7), p(9, 8));
        x.pin(2, 1);
        x.save(0);
        runs(x, NONE, 3, 600000200111300000L);
        runs(x, NONE, 3, 100001100002100003L);
        expect.is(4, "about(0) behind scripts", () -> x.about(0));
        expect.is(3, "about(1) behind scripts", () -> x.about(1));
        expect.is(1, "page(2, 8) behind scripts", () -> x.page(2, 8));
        expect.is(7, "at(0) behind scripts", () -> x.at(0));
        x.simulate(1, 99);
        expect.is(4, "about(0) behind simulate", () -> x.about(0));
        expect.is(3, "about(1) behind simulate", () -> x.about(1));
        expect.is(4, "restore(0) behind simulate", () -> x.restore(0));
        expect.is(8, "about(2) behind simulate", () -> x.about(2));
    }

    /** The seed with which the first r is this one: x must be r * 2^33 behind the first step. */
    private static long seedFor(int r) {
        long inverse = 1;
        for (int i = 0; i < 6; i++) {
            inverse *= 2 - 6364136223846793005L * inverse;
        }
        return (((long) r << 33) - 1442695040888963407L) * inverse;
    }

    private static void simulate() {
        CodedColumn x = new CodedColumn();
        expect.fails(ARGUMENT, "simulate(5, 0)", () -> x.simulate(5, 0));
        expect.fails(ARGUMENT, "simulate(5, 100)", () -> x.simulate(5, 100));
        expect.fails(ARGUMENT, "simulate(5, -1)", () -> x.simulate(5, -1));
        // One page of one value is plain, with 17 bits.
        expect.is(171, "simulate(0, 1)", () -> x.simulate(0, 1));
        expect.is(171, "simulate(least, 1)", () -> x.simulate(Long.MIN_VALUE, 1));
        CodedColumn ten = Build.pages(p(0), p(1), p(2), p(3), p(4), p(5), p(6), p(7), p(8), p(9));
        ten.setLimit(1);
        // No room for the first value: all pages become one to twelve values by steps, and it is left out.
        ten.save(0);
        ten.compact();
        int compacted = ten.about(3);
        int pages = ten.about(1);
        ten.restore(0);
        expect.is(1, "the pages of 0 to 9 behind compact()", () -> pages);
        expect.is(10 * compacted + 1, "simulate(0, 1) without room", () -> ten.simulate(0, 1));
        expect.is(21 + 9 * 2, "the bits of 0 to 9 behind compact()", () -> compacted);
    }

    /**
     * The four kinds of values. What was simulated shows only in the size of the page; pinned to
     * small numbers, and with every other value at its side, no two values can be mixed up.
     */
    private static void simulateNear() {
        int[][] rows = {
            // r, the last value, what comes
            {4 * 777, 5, 777}, {4 * 1024, 5, 0}, {4 * 1023, 5, 1023}, {2147483644, 0, 1023},
            {1, 512, 512}, {4 * 777 + 1, 3, 3},
            {4 * 7 + 2, 100, 107}, {4 * 8 + 2, 100, 100}, {4 * 7 + 2, 1020, 1023}, {4 * 3 + 2, 1020, 1023},
            {4 * 7 + 3, 100, 93}, {4 * 8 + 3, 100, 100}, {4 * 7 + 3, 5, 0}, {2147483647, 300, 293},
        };
        for (int[] row : rows) {
            long seed = seedFor(row[0]);
            for (int other = 0; other < 1024; other++) {
                CodedColumn x = Build.pages(p(0), p(other, row[1]));
                x.pin(1, 3);
                CodedColumn added = Build.pages(p(0), p(other, row[1], row[2]));
                added.pin(1, 3);
                expect.is(10 * added.about(3) + 2, "simulate of r = " + row[0] + " behind " + other + ", " + row[1],
                    () -> x.simulate(seed, 1));
            }
        }
        CodedColumn empty = new CodedColumn();
        for (int r = 1; r <= 3; r++) {
            long seed = seedFor(r);
            expect.is(171, "simulate of r = " + r + " without values", () -> empty.simulate(seed, 1));
        }
        simulateTwo();
    }

    private static int r(long x) {
        return (int) (x >>> 33);
    }

    private static long step(long x) {
        return x * 6364136223846793005L + 1442695040888963407L;
    }

    /** Two values from one seed: the first one is the last value of an empty column, 0, and then comes 2. */
    private static void simulateTwo() {
        long seed = 0;
        boolean found = false;
        while (!found) {
            seed++;
            long first = step(seed);
            long second = step(first);
            found = r(first) % 4 == 1 && r(second) % 4 == 0 && r(second) / 4 % 1024 == 2;
        }
        long from = seed;
        CodedColumn empty = new CodedColumn();
        // 0 and 2 are 21 + 3 bits by steps, and more by all other codings.
        expect.is(10 * (21 + 3) + 1, "simulate(" + from + ", 2) without values", () -> empty.simulate(from, 2));
        CodedColumn one = Build.pages(p(2));
        // 2, 2 and 2 are 21 bits as words.
        expect.is(10 * 21 + 1, "simulate(" + from + ", 2) behind one value", () -> one.simulate(from, 2));
    }
}
