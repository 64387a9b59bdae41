import java.util.function.Supplier;

/**
 * Promises 26 to 29 at their bounds. Every group of six digits is tried as a command, and held against what
 * the document's words say of its digits; simulations are held against add() and compact() themselves.
 */
public final class ScriptEdgeTest {
    private static final int NONE = CodedColumn.NONE;
    private static final int CALLS = 400;
    private static final Class<IllegalArgumentException> ARGUMENT = IllegalArgumentException.class;
    private static final Class<IndexOutOfBoundsException> INDEX = IndexOutOfBoundsException.class;
    private static final Class<IllegalStateException> STATE = IllegalStateException.class;

    private static final Expect expect = new Expect();

    public static void main(String[] args) {
        everyGroup(ScriptEdgeTest::withRoom);
        everyGroup(ScriptEdgeTest::withoutRoom);
        everyGroup(CodedColumn::new);
        everyGroup(ScriptEdgeTest::most);
        countIs1To3();
        atMostSixDigitsEach();
        firstIsTheHighestGroup();
        firstThatFails();
        eachFindsWhatWasChanged();
        simulateIsAddAndCompact();
        simulateCountIs1To99();
        seedIsAnyLong();
        codingsOfAllPages();
        slotIs0Or1();
        slotKeepsIt();
        slotKeepsAll();
        expect.end();
    }

    private static int[] p(int... values) {
        return values;
    }

    private static CodedColumn withRoom() {
        CodedColumn x = Build.pages(p(7, 7, 7), p(500, 20), p(1, 2, 3, 4, 5, 6, 7, 8, 9, 10, 11), p(999, 0));
        x.pin(1, 3);
        return x;
    }

    private static CodedColumn withoutRoom() {
        CodedColumn x = Build.pages(p(0), p(1), p(2), p(3), p(4), p(5), p(6), p(7), p(8), p(9, 1023));
        x.setLimit(2);
        return x;
    }

    /** 120 values: the places 100 to 119 have no command. */
    private static CodedColumn most() {
        CodedColumn x = new CodedColumn();
        x.setLimit(12);
        for (int i = 0; i < 120; i++) {
            x.add(i * 37 % 1024);
        }
        return x;
    }

    // ---- one command

    /** What a command asks about a column, read once. */
    private static final class Facts {
        final int values;
        final int pages;
        final int total;
        final int[] lengths;
        final int[] codings;
        final boolean[] there = new boolean[1024];
        final boolean hasRoom;

        Facts(CodedColumn x) {
            values = x.about(0);
            pages = x.about(1);
            total = x.about(3);
            lengths = new int[pages];
            codings = new int[pages];
            for (int page = 0; page < pages; page++) {
                lengths[page] = x.page(page, 1);
                codings[page] = x.page(page, 2);
            }
            for (int i = 0; i < values; i++) {
                there[x.at(i)] = true;
            }
            hasRoom = pages < 10 || lengths[9] < x.about(2);
        }

        /** The document's words, digit by digit. */
        boolean succeeds(String d) {
            int second = d.charAt(1) - '0';
            int ii = Integer.parseInt(d.substring(1, 3));
            int kk = Integer.parseInt(d.substring(2, 4));
            int last4 = Integer.parseInt(d.substring(2));
            switch (d.charAt(0)) {
                case '1':
                    return second == 0 && last4 <= 1023 && hasRoom;
                case '2':
                    return ii < values;
                case '3':
                    return d.endsWith("000") && ii < values;
                case '4':
                    return d.endsWith("00") && second < pages && kk >= 1 && kk < lengths[second] && pages < 10;
                case '5':
                    return d.endsWith("0000") && second + 1 < pages && lengths[second] + lengths[second + 1] <= 12;
                case '6':
                    return d.equals("600000");
                case '7':
                    return second == 0 && total <= last4;
                case '8':
                    return d.endsWith("000") && second < pages && codings[second] == d.charAt(2) - '0';
                case '9':
                    return second == 0 && d.endsWith("0") && there[Integer.parseInt(d.substring(2, 5))];
                default:
                    return false;
            }
        }
    }

    /** "and so does any other group (also one with another digit where a 0 is written)" */
    private static void everyGroup(Supplier<CodedColumn> made) {
        Facts facts = new Facts(made.get());
        CodedColumn x = made.get();
        String before = Trace.state(made.get());
        for (int group = 0; group < 1000000; group++) {
            if (group % (CALLS / 2) == 0) {
                x = made.get();
            }
            String digits = String.format("%06d", group);
            int want = facts.succeeds(digits) ? NONE : 0;
            int got = x.runScript(1, group);
            if (got != want) {
                expect.tell("runScript(1, " + digits + ") of " + before, String.valueOf(want), String.valueOf(got));
            }
        }
    }

    // ---- the script

    private static void runs(CodedColumn x, int want, int n, long script) {
        expect.is(want, "runScript(" + n + ", " + script + ")", () -> x.runScript(n, script));
    }

    /** "A script has 1 to 3 commands" */
    private static void countIs1To3() {
        CodedColumn x = withRoom();
        expect.fails(ARGUMENT, "runScript(0, 0)", () -> x.runScript(0, 0));
        runs(x, NONE, 1, 600000);
        runs(x, NONE, 2, 600000600000L);
        runs(x, NONE, 3, 600000600000600000L);
        expect.fails(ARGUMENT, "runScript(4, 600000)", () -> x.runScript(4, 600000));
        expect.fails(ARGUMENT, "runScript(4, three groups)", () -> x.runScript(4, 600000600000600000L));
    }

    /** "a number of at most 6 * n digits (0 or more)" */
    private static void atMostSixDigitsEach() {
        CodedColumn x = withRoom();
        long bound = 1;
        for (int n = 1; n <= 3; n++) {
            bound *= 1000000;
            long more = bound;
            int count = n;
            runs(x, 0, n, 0);
            runs(x, 0, n, bound - 1);
            expect.fails(ARGUMENT, "runScript(" + n + ", " + more + ")", () -> x.runScript(count, more));
            expect.fails(ARGUMENT, "runScript(" + n + ", -1)", () -> x.runScript(count, -1));
            expect.fails(ARGUMENT, "runScript(" + n + ", most)", () -> x.runScript(count, Long.MAX_VALUE));
            expect.fails(ARGUMENT, "runScript(" + n + ", least)", () -> x.runScript(count, Long.MIN_VALUE));
        }
    }

    /** "the first command is the highest group of the number (with zeros before it, if it has fewer digits)" */
    private static void firstIsTheHighestGroup() {
        CodedColumn x = new CodedColumn();
        // add(5), then the value 5 is there; the other way round it is not yet.
        runs(x, NONE, 2, 100005900050L);
        runs(x, 0, 2, 900050100005L);
        runs(x, NONE, 3, 100005100006900060L);
        runs(x, 1, 3, 100005900060100006L);
        // Fewer digits: the first group is 000000, or begins with zeros, and such a group fails.
        runs(x, 0, 2, 100005);
        runs(x, 0, 3, 100005100005L);
        runs(x, 0, 2, 99999600000L);
        runs(x, 0, 1, 99999);
        runs(x, 0, 1, 5);
    }

    /** "the index, from 0, of the first command that fails; NONE if all succeed" */
    private static void firstThatFails() {
        CodedColumn x = withRoom();
        long good = 600000;
        long bad = 999999;
        for (int fails = 0; fails < 8; fails++) {
            long script = 0;
            for (int i = 0; i < 3; i++) {
                script = script * 1000000 + ((fails >> i & 1) == 1 ? bad : good);
            }
            runs(x, fails == 0 ? NONE : Integer.numberOfTrailingZeros(fails), 3, script);
        }
    }

    private static void eachFindsWhatWasChanged() {
        CodedColumn x = withoutRoom();
        // remove(0) takes a page, so that add has room; add(1) by add(1) fills it again.
        runs(x, NONE, 2, 300000100005L);
        runs(x, NONE, 3, 300000100005100006L);
        x.setLimit(1);
        runs(x, 2, 3, 300000100005100006L);
        runs(x, 0, 2, 490100300000L);
        runs(x, NONE, 2, 300000480100L);
        runs(x, 1, 2, 300000490100L);
        // put and remove at the end of what is there then.
        runs(x, 1, 3, 310000210005600000L);
        runs(x, NONE, 3, 310000209005900050L);
        expect.tell("the column behind scripts", "limit 1 [0] [1] [2] [3] [4] [5] [6] [7] [8] [9 1023]", Trace.state(x));
    }

    // ---- simulations

    /** The column that comes when the values are added to it one by one, and what simulate says of it. */
    private static int byHand(CodedColumn x, long seed, int m) {
        int count = x.about(0);
        int last = count == 0 ? 0 : x.at(count - 1);
        long state = seed;
        for (int i = 0; i < m; i++) {
            state = state * 6364136223846793005L + 1442695040888963407L;
            int r = (int) (state >>> 33);
            int[] kinds = {r / 4 % 1024, last, Math.min(1023, last + r / 4 % 8), Math.max(0, last - r / 4 % 8)};
            int v = kinds[r % 4];
            if (Expect.outcome(() -> x.add(v)).equals("IllegalStateException")) {
                x.compact();
            } else {
                last = v;
            }
        }
        boolean[] seen = new boolean[5];
        int codings = 0;
        for (int page = 0; page < x.about(1); page++) {
            int coding = x.page(page, 2);
            codings += seen[coding] ? 0 : 1;
            seen[coding] = true;
        }
        return 10 * x.about(3) + codings;
    }

    private static void simulates(String of, Supplier<CodedColumn> made, long seed, int m) {
        CodedColumn x = made.get();
        CodedColumn hand = made.get();
        expect.is(byHand(hand, seed, m), "simulate(" + seed + ", " + m + ") of " + of, () -> x.simulate(seed, m));
    }

    private static CodedColumn limited(int limit, int... values) {
        CodedColumn x = Build.pages(values);
        x.setLimit(limit);
        return x;
    }

    /** "It is added, if add() is possible; otherwise all pages are merged as by compact(), and the value is left out." */
    private static void simulateIsAddAndCompact() {
        for (int run = 0; run < 40; run++) {
            long seed = 77L * run * run - 1000;
            int m = 1 + run * 98 / 39;
            simulates("nothing", CodedColumn::new, seed, m);
            simulates("four pages", ScriptEdgeTest::withRoom, seed, m);
            simulates("ten pages", ScriptEdgeTest::withoutRoom, seed, m);
            simulates("120 values", ScriptEdgeTest::most, seed, m);
            int limit = 1 + run % 12;
            simulates("1023 with the limit " + limit, () -> limited(limit, 1023), seed, m);
            simulates("0 with the limit " + limit, () -> limited(limit, 0, 0), seed, m);
        }
    }

    /** "m: number of values, 1 to 99" */
    private static void simulateCountIs1To99() {
        for (int m : new int[] {1, 2, 98, 99}) {
            simulates("nothing", CodedColumn::new, 12345, m);
        }
        CodedColumn x = new CodedColumn();
        expect.fails(ARGUMENT, "simulate(12345, 0)", () -> x.simulate(12345, 0));
        expect.fails(ARGUMENT, "simulate(12345, 100)", () -> x.simulate(12345, 100));
        expect.fails(ARGUMENT, "simulate(12345, -99)", () -> x.simulate(12345, -99));
    }

    /** "seed: any long", "(with long overflow)" */
    private static void seedIsAnyLong() {
        long[] seeds = {0, 1, -1, Long.MIN_VALUE, Long.MAX_VALUE, Long.MIN_VALUE + 1, 1L << 33, -(1L << 33), 1L << 62};
        for (long seed : seeds) {
            simulates("nothing", CodedColumn::new, seed, 99);
            simulates("ten pages", ScriptEdgeTest::withoutRoom, seed, 1);
        }
    }

    /** "the number of different codings that its pages have": 1 to 5, pins counted. */
    private static void codingsOfAllPages() {
        for (int codings = 1; codings <= 5; codings++) {
            int different = codings;
            Supplier<CodedColumn> made = () -> {
                CodedColumn x = Build.pages(p(0), p(1), p(2), p(3), p(4), p(5), p(6), p(7), p(8), p(9));
                for (int page = 0; page < 10; page++) {
                    x.pin(page, page % different);
                }
                return x;
            };
            CodedColumn x = made.get();
            // The last page has room, so that nothing is merged.
            expect.is(codings, "simulate(3, 5) % 10 of " + codings + " codings", () -> x.simulate(3, 5) % 10);
            simulates(codings + " codings", made, 3, 5);
        }
    }

    // ---- save slots

    /** "a save slot is not 0 or 1" */
    private static void slotIs0Or1() {
        CodedColumn x = withRoom();
        expect.fails(INDEX, "save(-1)", () -> x.save(-1));
        expect.is(18, "save(0)", () -> x.save(0));
        expect.fails(STATE, "restore(1) ahead of save(1)", () -> x.restore(1));
        x.remove(0);
        expect.is(17, "save(1)", () -> x.save(1));
        expect.fails(INDEX, "save(2)", () -> x.save(2));
        expect.fails(INDEX, "restore(-1)", () -> x.restore(-1));
        expect.is(18, "restore(0)", () -> x.restore(0));
        expect.is(17, "restore(1)", () -> x.restore(1));
        expect.fails(INDEX, "restore(2)", () -> x.restore(2));
    }

    /** "The save slot keeps it.": whatever is done behind restore, and behind save. */
    private static void slotKeepsIt() {
        CodedColumn x = withRoom();
        String kept = Trace.state(x);
        x.save(1);
        for (int times = 0; times < 3; times++) {
            x.put(0, 900);
            x.remove(3);
            x.merge(0);
            x.pin(0, 4);
            x.setLimit(1);
            x.add(77);
            x.runScript(1, 300000);
            x.simulate(9, 9);
            expect.is(18, "restore(1)", () -> x.restore(1));
            expect.tell("what the slot kept", kept, Trace.state(x));
        }
        x.remove(0);
        expect.is(17, "save(1) over it", () -> x.save(1));
        x.add(5);
        expect.is(17, "restore(1) of what was saved last", () -> x.restore(1));
    }

    /** "Returns the number of values.": none, one, and all that there can be. */
    private static void slotKeepsAll() {
        CodedColumn x = most();
        String all = Trace.state(x);
        expect.is(120, "save(0) of 120 values", () -> x.save(0));
        CodedColumn empty = new CodedColumn();
        expect.is(0, "save(0) of nothing", () -> empty.save(0));
        empty.add(5);
        expect.is(1, "save(1) of one value", () -> empty.save(1));
        expect.is(0, "restore(0) of nothing", () -> empty.restore(0));
        expect.tell("the column behind that", "limit 8", Trace.state(empty));
        expect.is(1, "restore(1) of one value", () -> empty.restore(1));
        expect.tell("the column behind that", "limit 8 [5]", Trace.state(empty));
        x.remove(119);
        x.remove(0);
        expect.is(120, "restore(0) of 120 values", () -> x.restore(0));
        expect.tell("the column behind restore(0)", all, Trace.state(x));
    }
}
