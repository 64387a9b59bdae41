import java.util.List;
import java.util.function.Supplier;

/**
 * "Exceptions": each sentence that says when a call throws, and "A call that throws an exception
 * changes nothing". Two columns are made alike; one of them gets the call that is refused, and then
 * both must tell the same: values, pages, pins, limit, text, remembered states and save slots.
 */
public final class RefusalTest {
    private static final int NONE = CodedColumn.NONE;
    private static final int LEAST = Integer.MIN_VALUE;
    private static final int MOST = Integer.MAX_VALUE;
    private static final Class<IllegalArgumentException> ARGUMENT = IllegalArgumentException.class;
    private static final Class<IndexOutOfBoundsException> INDEX = IndexOutOfBoundsException.class;
    private static final Class<IllegalStateException> STATE = IllegalStateException.class;
    private static final String PAGE = "100 0110 0000001010 0010 01 01 01 01 11";

    private static final Expect expect = new Expect();

    private interface Asked {
        long of(CodedColumn x);
    }

    private interface AskedWith {
        long of(CodedColumn x, int argument);
    }

    public static void main(String[] args) {
        text();
        reading();
        actionsOnValues();
        actionsOnPages();
        pinAndLimit();
        take();
        undo();
        wouldBe();
        scripts();
        slots();
        firstNamed();
        callsThatOnlyTell();
        expect.end();
    }

    // ---- the columns

    /** Three pages, a pin, another limit, a text, one slot, and 14 remembered states. */
    private static CodedColumn rich() {
        CodedColumn x = Build.pages(new int[] {7, 7, 7}, new int[] {500, 20});
        x.save(1);
        x.pin(0, 2);
        x.setLimit(1);
        x.add(9);
        x.setLimit(3);
        Build.write(x, PAGE);
        return x;
    }

    /** Ten pages, the last one at the limit, so that no further page and no value has room; 14 states. */
    private static CodedColumn full() {
        CodedColumn x = Build.pages(new int[] {0}, new int[] {1}, new int[] {2}, new int[] {3}, new int[] {4},
            new int[] {5}, new int[] {6}, new int[] {7}, new int[] {8}, new int[] {9, 1023});
        x.setLimit(2);
        Build.write(x, PAGE);
        return x;
    }

    /** Two pages with 13 values together. */
    private static CodedColumn thirteen() {
        CodedColumn x = Build.pages(new int[] {1, 2, 3, 4, 5, 6, 7}, new int[] {8, 9, 10, 11, 12, 13});
        x.pin(1, 1);
        return x;
    }

    private static CodedColumn empty() {
        return new CodedColumn();
    }

    /** A text of 160 characters: a page of 141, and then zeros. */
    private static CodedColumn fullText() {
        CodedColumn x = rich();
        Build.write(x, "011 1100 0000000000 1010" + " 0000000111".repeat(12) + "0".repeat(19));
        return x;
    }

    private static CodedColumn withText(String text) {
        CodedColumn x = rich();
        Build.write(x, text);
        return x;
    }

    // ---- the check

    private static void refused(Class<? extends RuntimeException> want, String call,
            Supplier<CodedColumn> made, Asked asked) {
        CodedColumn touched = made.get();
        expect.fails(want, call, () -> asked.of(touched));
        expect.fails(want, call + " once more", () -> asked.of(touched));
        expect.tell(call + ": what is there behind it", Trace.all(made.get()), Trace.all(touched));
    }

    private static void refusedFor(Class<? extends RuntimeException> want, String call,
            Supplier<CodedColumn> made, int[] arguments, AskedWith asked) {
        for (int argument : arguments) {
            refused(want, call + " with " + argument, made, x -> asked.of(x, argument));
        }
    }

    private static int[] row(int... numbers) {
        return numbers;
    }

    // ---- the calls

    private static void text() {
        refusedFor(ARGUMENT, "append(c)", RefusalTest::rich, row(-1, 256, LEAST, MOST, NONE), (x, c) -> x.append(c));
        refused(STATE, "append('1') to 160 characters", RefusalTest::fullText, x -> x.append('1'));
        refused(STATE, "append(0) to 160 characters", RefusalTest::fullText, x -> x.append(0));
    }

    private static void reading() {
        int[] values = row(-1, 6, 120, LEAST, MOST, NONE);
        int[] pages = row(-1, 3, 10, LEAST, MOST, NONE);
        int[] numbers = row(-1, 9, LEAST, MOST, NONE);
        int[] codings = row(-1, 5, LEAST, MOST, NONE);
        refusedFor(ARGUMENT, "about(what)", RefusalTest::rich, numbers, (x, what) -> x.about(what));
        refusedFor(INDEX, "at(i)", RefusalTest::rich, values, (x, i) -> x.at(i));
        refusedFor(INDEX, "at(i) of nothing", RefusalTest::empty, row(-1, 0, 1), (x, i) -> x.at(i));
        refusedFor(INDEX, "page(p, 0)", RefusalTest::rich, pages, (x, p) -> x.page(p, 0));
        refusedFor(INDEX, "page(p, 0) of nothing", RefusalTest::empty, row(-1, 0, 1), (x, p) -> x.page(p, 0));
        refusedFor(INDEX, "page(p, 0) of ten", RefusalTest::full, row(-1, 10), (x, p) -> x.page(p, 0));
        refusedFor(ARGUMENT, "page(2, what)", RefusalTest::rich, numbers, (x, what) -> x.page(2, what));
        refusedFor(INDEX, "bit(p, 0)", RefusalTest::rich, pages, (x, p) -> x.bit(p, 0));
        refusedFor(ARGUMENT, "bit(0, i)", RefusalTest::rich, row(-1, LEAST, NONE), (x, i) -> x.bit(0, i));
        refusedFor(INDEX, "size(p, 0)", RefusalTest::rich, pages, (x, p) -> x.size(p, 0));
        refusedFor(ARGUMENT, "size(1, coding)", RefusalTest::rich, codings, (x, c) -> x.size(1, c));
        int[] outside = row(-1, 1024, LEAST, MOST, NONE);
        refusedFor(ARGUMENT, "scan(v, true)", RefusalTest::rich, outside, (x, v) -> x.scan(v, true));
        refusedFor(ARGUMENT, "scan(v, false)", RefusalTest::rich, outside, (x, v) -> x.scan(v, false));
        refusedFor(ARGUMENT, "scan(v, true) of nothing", RefusalTest::empty, outside, (x, v) -> x.scan(v, true));
        refusedFor(INDEX, "sum(from, 5)", RefusalTest::rich, values, (x, from) -> x.sum(from, 5));
        refusedFor(INDEX, "sum(0, to)", RefusalTest::rich, values, (x, to) -> x.sum(0, to));
        refusedFor(INDEX, "sum(i, i)", RefusalTest::rich, values, (x, i) -> x.sum(i, i));
        refused(INDEX, "sum(0, 0) of nothing", RefusalTest::empty, x -> x.sum(0, 0));
    }

    private static void actionsOnValues() {
        int[] outside = row(-1, 1024, LEAST, MOST, NONE);
        int[] values = row(-1, 6, 120, LEAST, MOST, NONE);
        refusedFor(ARGUMENT, "add(v)", RefusalTest::rich, outside, (x, v) -> x.add(v));
        refusedFor(STATE, "add(v) to ten pages", RefusalTest::full, row(0, 5, 1023), (x, v) -> x.add(v));
        refusedFor(INDEX, "put(i, 0)", RefusalTest::rich, values, (x, i) -> x.put(i, 0));
        refused(INDEX, "put(0, 0) of nothing", RefusalTest::empty, x -> x.put(0, 0));
        refusedFor(ARGUMENT, "put(0, v)", RefusalTest::rich, outside, (x, v) -> x.put(0, v));
        refusedFor(ARGUMENT, "put(5, v)", RefusalTest::rich, outside, (x, v) -> x.put(5, v));
        refusedFor(INDEX, "remove(i)", RefusalTest::rich, values, (x, i) -> x.remove(i));
        refused(INDEX, "remove(0) of nothing", RefusalTest::empty, x -> x.remove(0));
        refused(INDEX, "remove(11) of eleven", RefusalTest::full, x -> x.remove(11));
    }

    private static void actionsOnPages() {
        int[] pages = row(-1, 3, 10, LEAST, MOST, NONE);
        refusedFor(INDEX, "cut(p, 1)", RefusalTest::rich, pages, (x, p) -> x.cut(p, 1));
        refused(INDEX, "cut(0, 1) of nothing", RefusalTest::empty, x -> x.cut(0, 1));
        refusedFor(ARGUMENT, "cut(0, k)", RefusalTest::rich, row(-1, 0, 3, 4, LEAST, MOST, NONE), (x, k) -> x.cut(0, k));
        refusedFor(ARGUMENT, "cut(2, k) of one value", RefusalTest::rich, row(0, 1, 2), (x, k) -> x.cut(2, k));
        refused(STATE, "cut(9, 1) of ten pages", RefusalTest::full, x -> x.cut(9, 1));
        refusedFor(INDEX, "merge(p)", RefusalTest::rich, pages, (x, p) -> x.merge(p));
        refused(INDEX, "merge(2) of the last page", RefusalTest::rich, x -> x.merge(2));
        refused(INDEX, "merge(9) of ten pages", RefusalTest::full, x -> x.merge(9));
        refused(INDEX, "merge(0) of nothing", RefusalTest::empty, x -> x.merge(0));
        refused(STATE, "merge(0) to 13 values", RefusalTest::thirteen, x -> x.merge(0));
    }

    private static void pinAndLimit() {
        int[] pages = row(-1, 3, 10, LEAST, MOST, NONE);
        refusedFor(INDEX, "pin(p, 0)", RefusalTest::rich, pages, (x, p) -> x.pin(p, 0));
        refusedFor(INDEX, "pin(p, NONE)", RefusalTest::rich, pages, (x, p) -> x.pin(p, NONE));
        refused(INDEX, "pin(0, 0) of nothing", RefusalTest::empty, x -> x.pin(0, 0));
        int[] codings = row(-1, 5, NONE - 1, NONE + 1, LEAST, MOST);
        refusedFor(ARGUMENT, "pin(0, coding)", RefusalTest::rich, codings, (x, c) -> x.pin(0, c));
        refusedFor(ARGUMENT, "pin(1, coding)", RefusalTest::rich, codings, (x, c) -> x.pin(1, c));
        int[] limits = row(-1, 0, 13, LEAST, MOST, NONE);
        refusedFor(ARGUMENT, "setLimit(v)", RefusalTest::rich, limits, (x, v) -> x.setLimit(v));
    }

    private static void take() {
        String[] noPages = {"", "0", PAGE.substring(0, PAGE.length() - 1), PAGE + "0", PAGE + "1", "101", "x" + PAGE};
        for (String text : noPages) {
            refused(STATE, "take() of '" + text + "'", () -> withText(text), CodedColumn::take);
        }
        refused(STATE, "take() of 160 characters", RefusalTest::fullText, CodedColumn::take);
        refused(STATE, "take() to ten pages", RefusalTest::full, CodedColumn::take);
    }

    private static CodedColumn forgotten() {
        CodedColumn x = rich();
        x.restore(1);
        return x;
    }

    private static CodedColumn takenBack() {
        CodedColumn x = rich();
        for (int left = 14; left > 0; left--) {
            Expect.outcome(x::undo);
        }
        return x;
    }

    private static void undo() {
        refused(STATE, "undo() of nothing", RefusalTest::empty, CodedColumn::undo);
        refused(STATE, "undo() behind restore", RefusalTest::forgotten, CodedColumn::undo);
        refused(STATE, "undo() behind all others", RefusalTest::takenBack, CodedColumn::undo);
    }

    private static void wouldBe() {
        int[] pages = row(-1, 3, 10, LEAST, MOST, NONE);
        refusedFor(INDEX, "gain(p)", RefusalTest::rich, pages, (x, p) -> x.gain(p));
        refusedFor(INDEX, "bestCut(p)", RefusalTest::rich, pages, (x, p) -> x.bestCut(p));
        refusedFor(INDEX, "bestNext(p)", RefusalTest::rich, pages, (x, p) -> x.bestNext(p));
        int[] none = row(-1, 0, 1);
        refusedFor(INDEX, "gain(p) of nothing", RefusalTest::empty, none, (x, p) -> x.gain(p));
        refusedFor(INDEX, "bestCut(p) of nothing", RefusalTest::empty, none, (x, p) -> x.bestCut(p));
        refusedFor(INDEX, "bestNext(p) of nothing", RefusalTest::empty, none, (x, p) -> x.bestNext(p));
        refusedFor(INDEX, "gain(p) of ten", RefusalTest::full, row(-1, 10), (x, p) -> x.gain(p));
    }

    private static void scripts() {
        refusedFor(ARGUMENT, "runScript(n, 0)", RefusalTest::rich, row(-1, 0, 4, LEAST, MOST, NONE),
            (x, n) -> x.runScript(n, 0));
        long[][] scripts = {
            {1, -1}, {1, Long.MIN_VALUE}, {3, -1}, {3, -100005}, {1, 1000000}, {1, 1100005}, {1, 100005100005L},
            {1, Long.MAX_VALUE}, {2, 1000000000000L}, {2, 100005100005100005L}, {2, Long.MAX_VALUE},
            {3, 1000000000000000000L}, {3, Long.MAX_VALUE}, {3, Long.MIN_VALUE},
        };
        for (long[] script : scripts) {
            int n = (int) script[0];
            refused(ARGUMENT, "runScript(" + n + ", " + script[1] + ")", RefusalTest::rich,
                x -> x.runScript(n, script[1]));
        }
        int[] counts = row(-1, 0, 100, LEAST, MOST, NONE);
        refusedFor(ARGUMENT, "simulate(1, m)", RefusalTest::rich, counts, (x, m) -> x.simulate(1, m));
        refusedFor(ARGUMENT, "simulate(1, m) of ten", RefusalTest::full, counts, (x, m) -> x.simulate(1, m));
    }

    private static void slots() {
        int[] none = row(-1, 2, 3, LEAST, MOST, NONE);
        refusedFor(INDEX, "save(slot)", RefusalTest::rich, none, (x, slot) -> x.save(slot));
        refusedFor(INDEX, "restore(slot)", RefusalTest::rich, none, (x, slot) -> x.restore(slot));
        refused(STATE, "restore(0) ahead of save(0)", RefusalTest::rich, x -> x.restore(0));
        refusedFor(STATE, "restore(slot) of nothing", RefusalTest::empty, row(0, 1), (x, slot) -> x.restore(slot));
    }

    /** "If several exceptions apply to a call, the one that its description names first is thrown." */
    private static void firstNamed() {
        refused(ARGUMENT, "append(256) to 160 characters", RefusalTest::fullText, x -> x.append(256));
        refused(ARGUMENT, "append(-1) to 160 characters", RefusalTest::fullText, x -> x.append(-1));
        refused(INDEX, "page(3, 9)", RefusalTest::rich, x -> x.page(3, 9));
        refused(INDEX, "page(-1, -1)", RefusalTest::rich, x -> x.page(-1, -1));
        refused(INDEX, "bit(3, -1)", RefusalTest::rich, x -> x.bit(3, -1));
        refused(INDEX, "size(3, 5)", RefusalTest::rich, x -> x.size(3, 5));
        refused(ARGUMENT, "add(1024) to ten pages", RefusalTest::full, x -> x.add(1024));
        refused(ARGUMENT, "add(-1) to ten pages", RefusalTest::full, x -> x.add(-1));
        refused(INDEX, "put(6, 1024)", RefusalTest::rich, x -> x.put(6, 1024));
        refused(INDEX, "put(-1, -1)", RefusalTest::rich, x -> x.put(-1, -1));
        refused(INDEX, "cut(3, 0)", RefusalTest::rich, x -> x.cut(3, 0));
        refused(INDEX, "cut(10, 1) of ten pages", RefusalTest::full, x -> x.cut(10, 1));
        refused(INDEX, "cut(10, 0) of ten pages", RefusalTest::full, x -> x.cut(10, 0));
        refused(ARGUMENT, "cut(9, 0) of ten pages", RefusalTest::full, x -> x.cut(9, 0));
        refused(ARGUMENT, "cut(9, 2) of ten pages", RefusalTest::full, x -> x.cut(9, 2));
        refused(ARGUMENT, "cut(0, 1) of ten pages, of one value", RefusalTest::full, x -> x.cut(0, 1));
        refused(INDEX, "pin(3, 5)", RefusalTest::rich, x -> x.pin(3, 5));
        refused(INDEX, "restore(2) of nothing", RefusalTest::empty, x -> x.restore(2));
    }

    // ---- the calls that change nothing when they answer, too

    private static void tellsOnly(String call, Supplier<CodedColumn> made, Asked asked) {
        CodedColumn touched = made.get();
        long answer = asked.of(touched);
        expect.is(answer, call + " once more", () -> asked.of(touched));
        expect.tell(call + ": what is there behind it", Trace.all(made.get()), Trace.all(touched));
    }

    private static void callsThatOnlyTell() {
        for (Supplier<CodedColumn> made : List.<Supplier<CodedColumn>>of(RefusalTest::rich, RefusalTest::full)) {
            tellsOnly("errorPosition()", made, CodedColumn::errorPosition);
            for (int what = 0; what <= 8; what++) {
                int asked = what;
                tellsOnly("about(" + what + ")", made, x -> x.about(asked));
                tellsOnly("page(1, " + what + ")", made, x -> x.page(1, asked));
            }
            tellsOnly("at(0)", made, x -> x.at(0));
            tellsOnly("bit(0, 0)", made, x -> x.bit(0, 0));
            tellsOnly("bit(0, 999)", made, x -> x.bit(0, 999));
            tellsOnly("size(0, 4)", made, x -> x.size(0, 4));
            tellsOnly("scan(7, false)", made, x -> x.scan(7, false));
            tellsOnly("scan(7, true)", made, x -> x.scan(7, true));
            tellsOnly("sum(0, 5)", made, x -> x.sum(0, 5));
            tellsOnly("gain(0)", made, x -> x.gain(0));
            tellsOnly("gain of the last page", made, x -> x.gain(x.about(1) - 1));
            tellsOnly("bestCut(0)", made, x -> x.bestCut(0));
            tellsOnly("bestCut of the last page", made, x -> x.bestCut(x.about(1) - 1));
            tellsOnly("smallest()", made, CodedColumn::smallest);
            tellsOnly("bestNext(0)", made, x -> x.bestNext(0));
            tellsOnly("runScript that succeeds", made, x -> x.runScript(3, 500000200777600000L));
            tellsOnly("runScript that fails", made, x -> x.runScript(3, 300000500000999999L));
            long[] commands = {100005, 200777, 300000, 400100, 490100, 500000, 600000, 709999, 800000, 900070};
            for (long command : commands) {
                tellsOnly("runScript(1, " + command + ")", made, x -> x.runScript(1, command));
            }
            tellsOnly("simulate(5, 1)", made, x -> x.simulate(5, 1));
            tellsOnly("simulate(5, 99)", made, x -> x.simulate(5, 99));
        }
    }
}
