import java.util.Arrays;

/**
 * Promises 1 to 25: what a promise says of its own bounds (nothing there, full, the first and the last
 * one, ties), each under the words of the document. RefusalTest has the calls that are refused.
 */
public final class EdgeTest {
    private static final int NONE = CodedColumn.NONE;
    private static final Class<IllegalArgumentException> ARGUMENT = IllegalArgumentException.class;
    private static final Class<IndexOutOfBoundsException> INDEX = IndexOutOfBoundsException.class;
    private static final Class<IllegalStateException> STATE = IllegalStateException.class;

    private static final Expect expect = new Expect();

    public static void main(String[] args) {
        newObjectIsEmpty();
        textLengths();
        aboutNothing();
        aboutAll();
        pageOfEach();
        bitBehindTheCode();
        scanTimes();
        sumFromTo();
        addToLastPage();
        putAtBothEnds();
        removeTakesPage();
        cutBounds();
        cutKeepsPin();
        mergeTo12();
        mergePins();
        compactSavesBits();
        compactGoesAgain();
        pinNone();
        limitAnswersPrevious();
        takeBehindAllOthers();
        takeWhateverTheText();
        gainBounds();
        bestCutBounds();
        smallestInAnyNumberOfPages();
        bestNextBounds();
        expect.end();
    }

    private static int[] p(int... values) {
        return values;
    }

    private static CodedColumn one(int... values) {
        return Build.pages(values);
    }

    private static int[] alike(int v, int times) {
        int[] values = new int[times];
        Arrays.fill(values, v);
        return values;
    }

    private static int[] from(int first, int times) {
        int[] values = new int[times];
        for (int i = 0; i < times; i++) {
            values[i] = first + i;
        }
        return values;
    }

    private static void state(String when, String want, CodedColumn x) {
        expect.tell("the column behind " + when, want, Trace.state(x));
    }

    /** 120 values, 1023 each, in ten pages of twelve. */
    private static CodedColumn most() {
        CodedColumn x = new CodedColumn();
        x.setLimit(12);
        for (int i = 0; i < 120; i++) {
            x.add(1023);
        }
        return x;
    }

    /** Promise 1: "Creates a column without values." */
    private static void newObjectIsEmpty() {
        CodedColumn x = new CodedColumn();
        state("new", "limit 8", x);
        expect.is(0, "about(0) of a new object", () -> x.about(0));
        expect.is(0, "about(1) of a new object", () -> x.about(1));
        // Each object is for itself.
        CodedColumn other = new CodedColumn();
        other.add(5);
        other.append('0');
        other.save(0);
        state("what another object did", "limit 8", x);
        expect.is(0, "clearText() of a new object", x::clearText);
        expect.fails(STATE, "restore(0) of a new object", () -> x.restore(0));
        expect.fails(STATE, "undo() of a new object", x::undo);
    }

    /** Promises 2 and 3: the length is 1 to 160 behind append, and 0 to 160 ahead of clearText. */
    private static void textLengths() {
        CodedColumn x = new CodedColumn();
        expect.is(0, "clearText() of no text", x::clearText);
        for (int length = 1; length <= 160; length++) {
            int due = length;
            int c = length % 256;
            expect.is(due, "append(" + c + ")", () -> x.append(c));
        }
        expect.fails(STATE, "append of the 161st", () -> x.append('0'));
        expect.is(160, "clearText() of all", x::clearText);
        expect.is(1, "append behind that", () -> x.append(255));
        expect.is(1, "clearText() of one", x::clearText);
        expect.is(1, "append(0)", () -> x.append(0));
    }

    private static void about(String when, CodedColumn x, int... want) {
        for (int what = 0; what < want.length; what++) {
            int asked = what;
            expect.is(want[what], "about(" + what + ") of " + when, () -> x.about(asked));
        }
    }

    /** Promise 5: "the smallest value, NONE without one; ... the greatest value, NONE without one" */
    private static void aboutNothing() {
        CodedColumn x = new CodedColumn();
        about("nothing", x, 0, 0, 8, 0, 0, 0, NONE, NONE, 0);
        x.add(0);
        about("the value 0", x, 1, 1, 8, 17, 10, 0, 0, 0, 1);
        x.pin(0, 1);
        about("the value 0, pinned", x, 1, 1, 8, 21, 10, 1, 0, 0, 1);
        x.remove(0);
        about("what has been emptied", x, 0, 0, 8, 0, 0, 0, NONE, NONE, 0);
    }

    private static void aboutAll() {
        CodedColumn x = most();
        about("120 values", x, 120, 10, 12, 210, 1200, 0, 1023, 1023, 1);
        x.put(119, 0);
        about("120 values, the last one 0", x, 120, 10, 12, 9 * 21 + 35, 1200, 0, 0, 1023, 2);
        for (int page = 0; page < 10; page++) {
            x.pin(page, 0);
        }
        about("120 values in pinned pages", x, 120, 10, 12, 1270, 1200, 10, 0, 1023, 2);
        CodedColumn different = new CodedColumn();
        different.setLimit(12);
        for (int i = 0; i < 120; i++) {
            different.add(1023 - i * 7 % 120);
        }
        expect.is(120, "about(8) of 120 different values", () -> different.about(8));
        expect.is(904, "about(6) of 120 different values", () -> different.about(6));
    }

    /** Promise 7: the first, the last, and a middle page; "the coding to which it is pinned, NONE if it is not" */
    private static void pageOfEach() {
        CodedColumn x = most();
        int[] want = {0, 12, 1, 21, 1023, 1023, 1, 1, NONE};
        for (int page : p(0, 5, 9)) {
            for (int what = 0; what < want.length; what++) {
                int asked = what;
                int due = what == 0 ? 12 * page : want[what];
                expect.is(due, "page(" + page + ", " + what + ")", () -> x.page(page, asked));
            }
        }
        for (int coding = 0; coding <= 4; coding++) {
            int pin = coding;
            x.pin(9, coding);
            expect.is(pin, "page(9, 8) pinned to " + pin, () -> x.page(9, 8));
            expect.is(NONE, "page(8, 8) beside it", () -> x.page(8, 8));
        }
    }

    /** Promise 8: "NONE if its code has not so many" */
    private static void bitBehindTheCode() {
        CodedColumn x = Build.pages(p(1000), p(1023, 1023));
        int[] lengths = {17, 21};
        for (int page = 0; page < 2; page++) {
            int asked = page;
            int length = lengths[page];
            expect.is(0, "bit(" + page + ", 0)", () -> x.bit(asked, 0));
            expect.is(page == 0 ? 0 : 1, "the last bit of page " + page, () -> x.bit(asked, length - 1));
            expect.is(NONE, "the bit behind the last one of page " + page, () -> x.bit(asked, length));
            expect.is(NONE, "bit 178 of page " + page, () -> x.bit(asked, 178));
            expect.is(NONE, "bit 179 of page " + page, () -> x.bit(asked, 179));
            expect.is(NONE, "a bit far behind page " + page, () -> x.bit(asked, Integer.MAX_VALUE));
        }
        x.pin(0, 4);
        expect.is(1, "bit(0, 20) of 1000 by steps", () -> x.bit(0, 20));
        expect.is(NONE, "bit(0, 21) of 1000 by steps", () -> x.bit(0, 21));
    }

    /** Promise 10: "how often it is there", in all pages together. */
    private static void scanTimes() {
        CodedColumn x = most();
        expect.is(120, "scan(1023, true) of 120", () -> x.scan(1023, true));
        expect.is(0, "scan(0, true) of 120", () -> x.scan(0, true));
        expect.is(10 * (1 + 1 + 12), "scan(1023, false) of 120", () -> x.scan(1023, false));
        expect.is(10, "scan(1022, false) of 120", () -> x.scan(1022, false));
        expect.is(0, "scan(0, true) of nothing", () -> new CodedColumn().scan(0, true));
        expect.is(0, "scan(1023, false) of nothing", () -> new CodedColumn().scan(1023, false));
        CodedColumn two = Build.pages(p(0, 5), p(5, 0, 5));
        expect.is(3, "scan(5, true) of two pages", () -> two.scan(5, true));
        expect.is(2, "scan(0, true) of two pages", () -> two.scan(0, true));
    }

    /** Promise 11: "0 if to is less than from (both must be there all the same)" */
    private static void sumFromTo() {
        CodedColumn x = most();
        expect.is(122760, "sum(0, 119)", () -> x.sum(0, 119));
        expect.is(1023, "sum(119, 119)", () -> x.sum(119, 119));
        expect.is(0, "sum(119, 118)", () -> x.sum(119, 118));
        expect.is(0, "sum(119, 0)", () -> x.sum(119, 0));
        expect.is(2046, "sum(11, 12) over two pages", () -> x.sum(11, 12));
        expect.fails(INDEX, "sum(120, 119)", () -> x.sum(120, 119));
        expect.fails(INDEX, "sum(120, 0)", () -> x.sum(120, 0));
        expect.fails(INDEX, "sum(0, 120)", () -> x.sum(0, 120));
        expect.fails(INDEX, "sum(0, -1)", () -> x.sum(0, -1));
        expect.fails(INDEX, "sum(-1, -1)", () -> x.sum(-1, -1));
        expect.fails(INDEX, "sum(1, 0) of one value", () -> one(5).sum(1, 0));
        CodedColumn zero = one(0, 0);
        expect.is(0, "sum(0, 1) of zeros", () -> zero.sum(0, 1));
    }

    /** Promise 12: "to the last page, if there is one and it has fewer values than the limit, otherwise to a new page" */
    private static void addToLastPage() {
        CodedColumn x = new CodedColumn();
        expect.is(0, "add(1) without a page", () -> x.add(1));
        x.setLimit(2);
        expect.is(0, "add(2) to one value less than the limit", () -> x.add(2));
        expect.is(1, "add(3) to as many as the limit", () -> x.add(3));
        x.setLimit(1);
        expect.is(2, "add(4) to as many as the limit 1", () -> x.add(4));
        x.setLimit(12);
        x.add(5);
        x.setLimit(1);
        expect.is(3, "add(6) to more values than the limit", () -> x.add(6));
        state("add", "limit 1 [1 2] [3] [4 5] [6]", x);
        // Only the last page counts: the others may have room.
        x.setLimit(12);
        expect.is(3, "add(7) where other pages have room", () -> x.add(7));
        CodedColumn ten = Build.pages(p(0), p(1), p(2), p(3), p(4), p(5), p(6), p(7), p(8), from(0, 11));
        ten.setLimit(11);
        expect.fails(STATE, "add(7) to eleven values with the limit 11", () -> ten.add(7));
        ten.setLimit(12);
        expect.is(9, "add(7) to eleven values with the limit 12", () -> ten.add(7));
        expect.fails(STATE, "add(7) to twelve values", () -> ten.add(7));
        ten.merge(0);
        expect.is(9, "add(7) to nine pages", () -> ten.add(7));
    }

    /** Promise 13: the first and the last value, of the column and of a page. */
    private static void putAtBothEnds() {
        CodedColumn x = Build.pages(p(1, 2), p(3), p(4, 5));
        x.pin(1, 3);
        expect.is(1, "put(0, 1023)", () -> x.put(0, 1023));
        expect.is(2, "put(1, 0)", () -> x.put(1, 0));
        expect.is(3, "put(2, 6)", () -> x.put(2, 6));
        expect.is(5, "put(4, 7)", () -> x.put(4, 7));
        expect.is(7, "put(4, 7) again", () -> x.put(4, 7));
        state("put", "limit 8 [1023 0] [6] pinned to 3 [4 7]", x);
        CodedColumn all = most();
        expect.is(1023, "put(119, 5)", () -> all.put(119, 5));
        expect.is(5, "at(119)", () -> all.at(119));
        expect.is(1023, "at(118)", () -> all.at(118));
    }

    /** Promise 14: "a page without values goes", with its pin; the others keep theirs. */
    private static void removeTakesPage() {
        CodedColumn x = Build.pages(p(1), p(2, 3), p(4), p(5));
        x.pin(0, 0);
        x.pin(1, 1);
        x.pin(2, 2);
        expect.is(4, "remove(3), a page in the middle", () -> x.remove(3));
        state("remove(3)", "limit 8 [1] pinned to 0 [2 3] pinned to 1 [5]", x);
        expect.is(1, "remove(0), the first page", () -> x.remove(0));
        state("remove(0)", "limit 8 [2 3] pinned to 1 [5]", x);
        expect.is(5, "remove(2), the last page", () -> x.remove(2));
        state("remove(2)", "limit 8 [2 3] pinned to 1", x);
        expect.is(3, "remove(1), not the last of its page", () -> x.remove(1));
        expect.is(2, "remove(0), the last value", () -> x.remove(0));
        state("remove of all", "limit 8", x);
        expect.is(0, "add(9) behind that", () -> x.add(9));
        state("add(9) behind that", "limit 8 [9]", x);
        CodedColumn all = most();
        for (int left = 119; left >= 0; left--) {
            int last = left;
            expect.is(1023, "remove(" + last + ")", () -> all.remove(last));
        }
        expect.is(0, "about(1) behind 120 times remove", () -> all.about(1));
    }

    /** Promise 15: "k: 1 to the number of its values less 1"; "if there are 10 pages" */
    private static void cutBounds() {
        CodedColumn x = one(from(0, 12));
        expect.fails(ARGUMENT, "cut(0, 0)", () -> x.cut(0, 0));
        expect.fails(ARGUMENT, "cut(0, 12)", () -> x.cut(0, 12));
        expect.is(17 + 21 + 20, "cut(0, 1)", () -> x.cut(0, 1));
        expect.is(17 + 21 + 18 + 17, "cut(1, 10)", () -> x.cut(1, 10));
        state("two cuts", "limit 8 [0] [1 2 3 4 5 6 7 8 9 10] [11]", x);
        expect.fails(ARGUMENT, "cut(2, 1) of one value", () -> x.cut(2, 1));
        for (int pages = 3; pages < 10; pages++) {
            x.cut(pages - 2, 1);
        }
        state("nine cuts", "limit 8 [0] [1] [2] [3] [4] [5] [6] [7] [8 9 10] [11]", x);
        expect.fails(STATE, "cut(8, 1) of ten pages", () -> x.cut(8, 1));
        x.remove(0);
        expect.is(8 * 17 + 23 + 17, "cut(7, 1) of nine pages", () -> x.cut(7, 1));
        state("the last cut", "limit 8 [1] [2] [3] [4] [5] [6] [7] [8] [9 10] [11]", x);
        CodedColumn last = Build.pages(p(1), p(2, 3));
        last.cut(1, 1);
        state("cut(1, 1) of the last page", "limit 8 [1] [2] [3]", last);
        CodedColumn first = Build.pages(p(1, 2), p(3));
        first.cut(0, 1);
        state("cut(0, 1) of the first page", "limit 8 [1] [2] [3]", first);
    }

    /** Promise 15: "a new page behind it, which is pinned as it is" */
    private static void cutKeepsPin() {
        for (int coding = 0; coding <= 4; coding++) {
            CodedColumn x = Build.pages(p(1, 2, 3), p(4));
            x.pin(0, coding);
            x.cut(0, 2);
            String pinned = " pinned to " + coding;
            state("cut(0, 2) of a pinned page", "limit 8 [1 2]" + pinned + " [3]" + pinned + " [4]", x);
        }
        CodedColumn x = Build.pages(p(1, 2, 3), p(4));
        x.pin(1, 2);
        x.cut(0, 2);
        state("cut(0, 2) of a page that is not pinned", "limit 8 [1 2] [3] [4] pinned to 2", x);
    }

    /** Promise 16: "if it would have more than 12 values"; the limit does not count. */
    private static void mergeTo12() {
        for (int first : p(1, 6, 11)) {
            CodedColumn x = Build.pages(from(0, first), from(first, 12 - first));
            x.setLimit(1);
            expect.is(21 + 22, "merge(0) of " + first + " and " + (12 - first), () -> x.merge(0));
            expect.is(12, "page(0, 1) behind that", () -> x.page(0, 1));
            CodedColumn more = Build.pages(from(0, first), from(first, 13 - first));
            expect.fails(STATE, "merge(0) of " + first + " and " + (13 - first), () -> more.merge(0));
        }
        CodedColumn ten = Build.pages(p(0), p(1), p(2), p(3), p(4), p(5), p(6), p(7), p(8), p(9));
        expect.fails(INDEX, "merge(9) of ten pages", () -> ten.merge(9));
        expect.is(8 * 17 + 23, "merge(8) of ten pages", () -> ten.merge(8));
        expect.is(6 * 17 + 23 + 23, "merge(0) of nine pages", () -> ten.merge(0));
        state("merge", "limit 8 [0 1] [2] [3] [4] [5] [6] [7] [8 9]", ten);
    }

    /** Promise 16: "the page is pinned then only if both were pinned to the same coding" */
    private static void mergePins() {
        int[] pins = {NONE, 0, 1, 2, 3, 4};
        for (int here : pins) {
            for (int behind : pins) {
                CodedColumn x = Build.pages(p(1), p(2, 3), p(4));
                x.pin(0, here);
                x.pin(1, behind);
                x.pin(2, 4);
                int gain = x.gain(0);
                int size = x.about(3);
                expect.is(size - gain, "merge(0) of pins " + here + ", " + behind, () -> x.merge(0));
                int want = here == behind ? here : NONE;
                expect.is(want, "page(0, 8) of pins " + here + ", " + behind, () -> x.page(0, 8));
                expect.is(4, "page(1, 8) behind that", () -> x.page(1, 8));
            }
        }
    }

    private static void compacts(int merges, int gain, CodedColumn x, String want) {
        String before = Trace.state(x);
        expect.is(gain, "gain(0) of " + before, () -> x.gain(0));
        expect.is(merges, "compact() of " + before, x::compact);
        state("compact() of " + before, want, x);
    }

    /** Promise 17: "as long as that saves bits": one bit is enough, none is not. */
    private static void compactSavesBits() {
        // Steps of two bits, 21 + 4 * 2, and 17 apart; small numbers of four bits, 21 + 6 * 4, together.
        compacts(1, 1, Build.pages(p(10, 11, 12, 13, 14), p(0)), "limit 8 [10 11 12 13 14 0]");
        // 21, and 21 + 5 by steps apart; 47 plain together.
        compacts(0, 0, Build.pages(p(700, 700), p(9, 0)), "limit 8 [700 700] [9 0]");
        // 21, and 27 plain apart; 49 by runs together.
        compacts(0, -1, Build.pages(p(7, 7, 7), p(500, 20)), "limit 8 [7 7 7] [500 20]");
        // Pinned to small, 21 and 21 + 2 * 2 apart; 21 + 12 * 2, or 21 + 11 * 2 together.
        compacts(1, 1, bothPinned(3, alike(0, 10), p(0, 3)), "limit 8 [0 0 0 0 0 0 0 0 0 0 0 3] pinned to 3");
        compacts(1, 3, bothPinned(3, alike(0, 9), p(0, 3)), "limit 8 [0 0 0 0 0 0 0 0 0 0 3] pinned to 3");
        // 21 and 21 + 2 * 7 apart; 21 + 5 * 7 together.
        compacts(0, 0, bothPinned(3, p(0, 0, 0), p(0, 100)), "limit 8 [0 0 0] pinned to 3 [0 100] pinned to 3");
        // Pinned to steps, 21 + 3 and 21 + 3 apart; 21 + 7 * 4 together.
        compacts(0, -1, bothPinned(4, p(0, 0, 0, 0), p(5, 5, 5, 5)),
            "limit 8 [0 0 0 0] pinned to 4 [5 5 5 5] pinned to 4");
        compacts(1, 6, bothPinned(4, p(0, 0, 0, 0), p(3, 3, 3, 3)), "limit 8 [0 0 0 0 3 3 3 3] pinned to 4");
        // "is possible": twelve values together are, thirteen are not.
        compacts(1, 21, Build.pages(alike(7, 6), alike(7, 6)), "limit 8 [7 7 7 7 7 7 7 7 7 7 7 7]");
        compacts(0, NONE, Build.pages(alike(7, 6), alike(7, 7)), "limit 8 [7 7 7 7 7 7] [7 7 7 7 7 7 7]");
        // "as merge()": with two pins, the page that comes has none.
        CodedColumn pins = Build.pages(p(7, 7), p(7, 7));
        pins.pin(0, 0);
        pins.pin(1, 1);
        compacts(1, 27 + 21 - 21, pins, "limit 8 [7 7 7 7]");
    }

    private static CodedColumn bothPinned(int coding, int[] first, int[] second) {
        CodedColumn x = Build.pages(first, second);
        x.pin(0, coding);
        x.pin(1, coding);
        return x;
    }

    /** Promise 17: "the first page whose merge() ... is merged, again and again", and how many merges there were. */
    private static void compactGoesAgain() {
        CodedColumn ten = Build.pages(p(7), p(7), p(7), p(7), p(7), p(7), p(7), p(7), p(7), p(7));
        compacts(9, 13, ten, "limit 8 [7 7 7 7 7 7 7 7 7 7]");
        expect.is(0, "compact() of one page", ten::compact);
        expect.is(0, "compact() of nothing", () -> new CodedColumn().compact());
        // Five and five first: they have no room for more, and what is behind them goes together.
        compacts(2, 21, Build.pages(alike(7, 5), alike(7, 5), alike(7, 5), alike(7, 2)),
            "limit 8 [7 7 7 7 7 7 7 7 7 7] [7 7 7 7 7 7 7]");
        // 500 20 7 7 are 47 bits plain, one less than apart; then they are merged with the first page, which alone
        // would not have gained: 21 + 47 apart, 7 + 4 + 30 + 14 as words.
        compacts(2, -1, Build.pages(p(7, 7, 7), p(500, 20), p(7, 7)), "limit 8 [7 7 7 500 20 7 7]");
    }

    /** Promise 18: "0 to 4, or NONE", "Returns its size then." */
    private static void pinNone() {
        CodedColumn x = Build.pages(p(1000), p(5, 5));
        int[] alone = {17, 21, 21, 21, 21};
        int[] both = {27, 21, 21, 21, 22};
        for (int coding = 0; coding <= 4; coding++) {
            int asked = coding;
            expect.is(alone[coding], "pin(0, " + coding + ")", () -> x.pin(0, asked));
            expect.is(both[coding], "pin(1, " + coding + ")", () -> x.pin(1, asked));
        }
        expect.is(2, "about(5) with two pins", () -> x.about(5));
        expect.is(17, "pin(0, NONE)", () -> x.pin(0, NONE));
        expect.is(17, "pin(0, NONE) again", () -> x.pin(0, NONE));
        expect.is(1, "about(5) with one pin", () -> x.about(5));
        expect.is(21, "pin(1, NONE)", () -> x.pin(1, NONE));
        state("pin", "limit 8 [1000] [5 5]", x);
    }

    /** Promise 19: "1 to 12", "Returns the previous one." Pages that have more values keep them. */
    private static void limitAnswersPrevious() {
        CodedColumn x = one(from(0, 12));
        int previous = 8;
        for (int limit = 12; limit >= 1; limit--) {
            int due = previous;
            int next = limit;
            expect.is(due, "setLimit(" + next + ")", () -> x.setLimit(next));
            expect.is(next, "about(2) behind that", () -> x.about(2));
            previous = limit;
        }
        expect.is(12, "page(0, 1) with the limit 1", () -> x.page(0, 1));
    }

    /** Promise 20: "Adds the page of the text behind all others, not pinned. Keeps the text." */
    private static void takeBehindAllOthers() {
        CodedColumn x = new CodedColumn();
        Build.write(x, "000 1100" + " 0000000001".repeat(11) + " 1111111111");
        x.setLimit(1);
        for (int pages = 1; pages <= 10; pages++) {
            int due = pages;
            expect.is(2, "take() of page " + pages, x::take);
            expect.is(due, "about(1) behind that", () -> x.about(1));
            expect.is(NONE, "page(" + (pages - 1) + ", 8) behind that", () -> x.page(due - 1, 8));
        }
        expect.fails(STATE, "take() of an eleventh page", x::take);
        expect.is(120, "about(0) of ten pages", () -> x.about(0));
        expect.is(1023, "at(119)", () -> x.at(119));
        expect.is(1, "at(118)", () -> x.at(118));
        expect.is(127, "clearText() behind take()", x::clearText);
        expect.fails(STATE, "take() of an empty text", x::take);
        CodedColumn room = one(3);
        Build.write(room, "000 0001 0000000111");
        room.take();
        state("take() where the last page has room", "limit 8 [3] [7]", room);
    }

    /** Promise 20: "Returns its coding (the one that it chooses, whatever that of the text is)." */
    private static void takeWhateverTheText() {
        String[] same = {
            "000 0010 0000000100 0000000100",
            "001 0010 0001 0000000100",
            "001 0010 0010 0000000001 0000000100 1 1",
            "010 0010 0000000100 0010",
            "010 0010 0000000100 0001 0000000100 0001",
            "011 0010 0000000100 0000",
            "011 0010 0000000000 0011 100 100",
            "100 0010 0000000100 0001 0",
            "100 0010 0000000100 1011 00000000000",
        };
        for (String text : same) {
            CodedColumn x = Build.text(text);
            expect.is(1, "take() of 4 4 as " + text, x::take);
            state("take() of " + text, "limit 8 [4 4]", x);
            expect.is(1, "page(0, 2) of 4 4", () -> x.page(0, 2));
            expect.is(21, "page(0, 3) of 4 4", () -> x.page(0, 3));
        }
    }

    /** Promise 22: "(less than 0: greater); NONE if it has no page behind it, or both have more than 12 values together" */
    private static void gainBounds() {
        CodedColumn x = Build.pages(from(0, 6), from(6, 6), from(12, 7), p(1000));
        expect.is(31 + 31 - 43, "gain(0) of twelve values", () -> x.gain(0));
        expect.is(NONE, "gain(1) of thirteen values", () -> x.gain(1));
        expect.is(33 + 17 - 87, "gain(2), greater", () -> x.gain(2));
        expect.is(NONE, "gain(3) of the last page", () -> x.gain(3));
        expect.is(NONE, "gain(0) of one page", () -> one(5).gain(0));
        CodedColumn ten = Build.pages(p(0), p(0), p(0), p(0), p(0), p(0), p(0), p(0), p(0), p(0));
        expect.is(13, "gain(8) of ten pages", () -> ten.gain(8));
        expect.is(NONE, "gain(9) of ten pages", () -> ten.gain(9));
    }

    /** Promise 23: "among several the smallest one (whether there are 10 pages or not); NONE if it has one value" */
    private static void bestCutBounds() {
        expect.is(NONE, "bestCut(0) of one value", () -> one(5).bestCut(0));
        expect.is(1, "bestCut(0) of two values", () -> one(5, 900).bestCut(0));
        CodedColumn last = one(alike(7, 12));
        expect.is(1, "bestCut(0) of twelve that are alike", () -> last.bestCut(0));
        last.put(11, 900);
        expect.is(11, "bestCut(0) where only the last one differs", () -> last.bestCut(0));
        last.put(11, 7);
        last.put(0, 900);
        expect.is(1, "bestCut(0) where only the first one differs", () -> last.bestCut(0));
        for (int coding = 0; coding <= 2; coding += 2) {
            last.pin(0, coding);
            expect.is(1, "bestCut(0) pinned to " + coding, () -> last.bestCut(0));
        }
        // 7 7 and 7 7 7 are 21 bits each, so are 7 and 7 .. 7 plain and words: 17 and 21, which is less.
        expect.is(1, "bestCut(0) of five that are alike", () -> one(alike(7, 5)).bestCut(0));
        CodedColumn ten = Build.pages(p(0), p(1), p(2), p(3), p(4), p(5), p(6), p(7), p(8), p(5, 5, 9));
        expect.is(2, "bestCut(9) of ten pages", () -> ten.bestCut(9));
        expect.is(NONE, "bestCut(8) of ten pages", () -> ten.bestCut(8));
        // Pinned to small, both parts stay so: 1 2 and 900 901 have one bit each.
        CodedColumn small = one(1, 2, 900, 901);
        small.pin(0, 3);
        expect.is(2, "bestCut(0) of two near pairs, pinned to small", () -> small.bestCut(0));
    }

    /** Promise 24: "in pages of 1 to 12 values, in their order, in any number of pages, none of them pinned; 0 without values" */
    private static void smallestInAnyNumberOfPages() {
        expect.is(0, "smallest() of nothing", () -> new CodedColumn().smallest());
        expect.is(17, "smallest() of one value", () -> one(5).smallest());
        expect.is(21, "smallest() of twelve that are alike", () -> one(alike(5, 12)).smallest());
        CodedColumn thirteen = Build.pages(alike(5, 12), p(5));
        expect.is(21 + 17, "smallest() of thirteen that are alike", thirteen::smallest);
        CodedColumn fourteen = Build.pages(alike(5, 12), p(5, 5));
        expect.is(21 + 21, "smallest() of fourteen that are alike", fourteen::smallest);
        // Twelve runs of ten take a page each: that are more pages than a column can have.
        CodedColumn twelve = new CodedColumn();
        twelve.setLimit(12);
        for (int i = 0; i < 120; i++) {
            twelve.add(i / 10 % 2 * 1023);
        }
        expect.is(12 * 21, "smallest() of twelve runs of ten", twelve::smallest);
        CodedColumn pins = Build.pages(p(5), p(5));
        pins.pin(0, 4);
        pins.pin(1, 1);
        expect.is(21, "smallest() of pinned pages", pins::smallest);
        // In their order: 0 1023 0 1023 as words, not two runs.
        expect.is(7 + 4 + 20 + 4, "smallest() of 0 1023 0 1023", () -> one(0, 1023, 0, 1023).smallest());
        CodedColumn most = most();
        expect.is(210, "smallest() of 120 that are alike", most::smallest);
    }

    /** Promise 25: "the smallest value from 0 to 1023 ... (whatever the limit is); NONE if it has 12 values" */
    private static void bestNextBounds() {
        CodedColumn x = Build.pages(alike(0, 11), alike(1023, 12), alike(1023, 2), p(0));
        x.setLimit(1);
        expect.is(0, "bestNext(0) of eleven zeros", () -> x.bestNext(0));
        expect.is(NONE, "bestNext(1) of twelve", () -> x.bestNext(1));
        expect.is(1023, "bestNext(2) of two times 1023", () -> x.bestNext(2));
        expect.is(0, "bestNext(3) of one zero", () -> x.bestNext(3));
        expect.is(1, "bestNext(0) of the value 1", () -> one(1).bestNext(0));
        // Plain: each value takes ten bits, and the smallest one is 0.
        x.pin(2, 0);
        expect.is(0, "bestNext(2) pinned to plain", () -> x.bestNext(2));
        x.pin(2, 4);
        expect.is(1022, "bestNext(2) pinned to steps", () -> x.bestNext(2));
        x.pin(2, 3);
        expect.is(1023, "bestNext(2) pinned to small", () -> x.bestNext(2));
        x.pin(2, 2);
        expect.is(1023, "bestNext(2) pinned to runs", () -> x.bestNext(2));
        x.pin(1, 0);
        expect.is(NONE, "bestNext(1) of twelve, pinned", () -> x.bestNext(1));
        // Steps of one bit behind 1 1: 0 and 1, and below 0 there is none.
        CodedColumn low = one(0, 0);
        low.pin(0, 4);
        expect.is(0, "bestNext(0) of 0 0 pinned to steps", () -> low.bestNext(0));
        CodedColumn up = one(3, 4);
        up.pin(0, 4);
        expect.is(2, "bestNext(0) of 3 4 pinned to steps", () -> up.bestNext(0));
    }
}
