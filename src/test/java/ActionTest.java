/** Promises 12 to 21: add, put, remove, cut, merge, compact, pin, setLimit, take, undo. */
public final class ActionTest {
    private static final int NONE = CodedColumn.NONE;
    private static final Class<IllegalArgumentException> ARGUMENT = IllegalArgumentException.class;
    private static final Class<IndexOutOfBoundsException> INDEX = IndexOutOfBoundsException.class;
    private static final Class<IllegalStateException> STATE = IllegalStateException.class;
    private static final int[] FAR = {-1, 10, 120, Integer.MIN_VALUE, Integer.MAX_VALUE};

    private static final Expect expect = new Expect();

    public static void main(String[] args) {
        add();
        put();
        remove();
        cut();
        merge();
        compact();
        pin();
        setLimit();
        take();
        undo();
        whatIsAnAction();
        expect.end();
    }

    /** The column has these pages, and no others. */
    private static void holds(String when, CodedColumn x, int[]... pages) {
        expect.is(pages.length, when + ", about(1)", () -> x.about(1));
        int i = 0;
        for (int p = 0; p < pages.length; p++) {
            int asked = p;
            expect.is(i, when + ", page(" + p + ", 0)", () -> x.page(asked, 0));
            expect.is(pages[p].length, when + ", page(" + p + ", 1)", () -> x.page(asked, 1));
            for (int v : pages[p]) {
                int place = i++;
                expect.is(v, when + ", at(" + place + ")", () -> x.at(place));
            }
        }
        expect.is(i, when + ", about(0)", () -> x.about(0));
    }

    private static int[] p(int... values) {
        return values;
    }

    /** Ten pages with one value each, 0 to 9. */
    private static CodedColumn tenPages() {
        return Build.pages(p(0), p(1), p(2), p(3), p(4), p(5), p(6), p(7), p(8), p(9));
    }

    private static void add() {
        CodedColumn x = new CodedColumn();
        for (int i = 0; i < 20; i++) {
            int v = i == 0 ? 0 : 1024 - i;
            expect.is(i / 8, "add(" + v + ") as value " + i, () -> x.add(v));
        }
        expect.is(1023, "at(1) behind add", () -> x.at(1));
        expect.fails(ARGUMENT, "add(-1)", () -> x.add(-1));
        expect.fails(ARGUMENT, "add(1024)", () -> x.add(1024));
        x.setLimit(4);
        expect.is(3, "add(5) to a last page that is at the limit", () -> x.add(5));
        x.setLimit(12);
        expect.is(3, "add(6) below the limit", () -> x.add(6));
        CodedColumn ten = tenPages();
        expect.is(9, "add(1) to the tenth page", () -> ten.add(1));
        ten.setLimit(2);
        expect.fails(STATE, "add(1) for an 11th page", () -> ten.add(1));
        expect.fails(ARGUMENT, "add(1024) for an 11th page", () -> ten.add(1024));
        ten.setLimit(3);
        ten.pin(9, 2);
        expect.is(9, "add(1) to a page that is pinned", () -> ten.add(1));
        expect.is(2, "page(9, 8) behind add", () -> ten.page(9, 8));
        CodedColumn pinned = Build.pages(p(1));
        pinned.pin(0, 2);
        pinned.setLimit(1);
        pinned.add(2);
        expect.is(NONE, "page(1, 8) of a new page", () -> pinned.page(1, 8));
    }

    private static void put() {
        CodedColumn x = Build.pages(p(1, 2, 3), p(4, 5));
        expect.is(3, "put(2, 1023)", () -> x.put(2, 1023));
        expect.is(4, "put(3, 0)", () -> x.put(3, 0));
        expect.is(0, "put(3, 0) again", () -> x.put(3, 0));
        holds("put", x, p(1, 2, 1023), p(0, 5));
        expect.fails(ARGUMENT, "put(0, -1)", () -> x.put(0, -1));
        expect.fails(ARGUMENT, "put(0, 1024)", () -> x.put(0, 1024));
        expect.fails(INDEX, "put(5, 1)", () -> x.put(5, 1));
        for (int far : FAR) {
            expect.fails(INDEX, "put(" + far + ", 1024)", () -> x.put(far, 1024));
        }
        holds("put that fails", x, p(1, 2, 1023), p(0, 5));
        CodedColumn minds = Build.pages(p(10, 11, 12, 13, 14, 15));
        expect.is(4, "the coding ahead of put", () -> minds.page(0, 2));
        minds.put(2, 500);
        expect.is(0, "the coding behind put", () -> minds.page(0, 2));
    }

    private static void remove() {
        CodedColumn x = Build.pages(p(1, 2, 3), p(4), p(5, 6));
        x.pin(1, 1);
        x.pin(2, 2);
        expect.is(2, "remove(1)", () -> x.remove(1));
        holds("remove(1)", x, p(1, 3), p(4), p(5, 6));
        expect.is(4, "remove(2)", () -> x.remove(2));
        holds("remove(2)", x, p(1, 3), p(5, 6));
        expect.is(2, "the pin of the page that moved up", () -> x.page(1, 8));
        expect.is(6, "remove(3)", () -> x.remove(3));
        expect.is(1, "remove(0)", () -> x.remove(0));
        expect.is(3, "remove(0) again", () -> x.remove(0));
        holds("remove of the first page", x, p(5));
        expect.fails(INDEX, "remove(1)", () -> x.remove(1));
        for (int far : FAR) {
            expect.fails(INDEX, "remove(" + far + ")", () -> x.remove(far));
        }
        expect.is(5, "remove of the last value", () -> x.remove(0));
        holds("remove of the last value", x);
        expect.fails(INDEX, "remove(0) of nothing", () -> x.remove(0));
        expect.is(0, "add behind that", () -> x.add(9));
        expect.is(NONE, "the pin of the new page", () -> x.page(0, 8));
    }

    private static void cut() {
        CodedColumn x = Build.pages(p(1), p(5, 5, 5, 900, 900, 900), p(2));
        x.pin(1, 0);
        x.pin(2, 4);
        expect.is(17 + 37 + 37 + 22 - 1, "cut(1, 3)", () -> x.cut(1, 3));
        holds("cut(1, 3)", x, p(1), p(5, 5, 5), p(900, 900, 900), p(2));
        for (int p = 0; p < 4; p++) {
            int asked = p;
            int[] pins = {NONE, 0, 0, 4};
            expect.is(pins[p], "page(" + p + ", 8) behind cut", () -> x.page(asked, 8));
        }
        expect.fails(ARGUMENT, "cut(1, 0)", () -> x.cut(1, 0));
        expect.fails(ARGUMENT, "cut(1, 3)", () -> x.cut(1, 3));
        expect.fails(ARGUMENT, "cut(0, 1)", () -> x.cut(0, 1));
        expect.fails(ARGUMENT, "cut(1, a lot)", () -> x.cut(1, Integer.MAX_VALUE));
        expect.fails(ARGUMENT, "cut(1, less than nothing)", () -> x.cut(1, Integer.MIN_VALUE));
        expect.fails(INDEX, "cut(4, 1)", () -> x.cut(4, 1));
        for (int far : FAR) {
            expect.fails(INDEX, "cut(" + far + ", 0)", () -> x.cut(far, 0));
        }
        CodedColumn ten = tenPages();
        ten.add(10);
        expect.fails(STATE, "cut(9, 1) of ten pages", () -> ten.cut(9, 1));
        expect.fails(ARGUMENT, "cut(9, 2) of ten pages", () -> ten.cut(9, 2));
        expect.fails(INDEX, "cut(10, 1) of ten pages", () -> ten.cut(10, 1));
        CodedColumn nine = Build.pages(p(0), p(1), p(2), p(3), p(4), p(5), p(6), p(7), p(8, 9));
        expect.is(170, "cut(8, 1) of nine pages", () -> nine.cut(8, 1));
    }

    private static void merge() {
        CodedColumn x = Build.pages(p(1, 1), p(2, 2), p(3, 3), p(4, 4), p(5, 5));
        x.pin(0, 2);
        x.pin(1, 2);
        x.pin(2, 3);
        x.pin(3, 4);
        // 21 bits a page, but 22 with steps; two runs of the merged page take 35.
        expect.is(35 + 21 + 22 + 21, "merge(0) of two with one pin", () -> x.merge(0));
        expect.is(2, "page(0, 8) behind that", () -> x.page(0, 8));
        expect.is(35 + (21 + 4) + 21, "merge(1) of two with two pins", () -> x.merge(1));
        expect.is(NONE, "page(1, 8) behind that", () -> x.page(1, 8));
        expect.is(3, "page(1, 2) behind that", () -> x.page(1, 2));
        x.pin(1, 1);
        x.merge(1);
        expect.is(NONE, "page(1, 8) where the page behind is not pinned", () -> x.page(1, 8));
        holds("merge", x, p(1, 1, 2, 2), p(3, 3, 4, 4, 5, 5));
        expect.fails(INDEX, "merge(1) of the last page", () -> x.merge(1));
        expect.fails(INDEX, "merge(2)", () -> x.merge(2));
        for (int far : FAR) {
            expect.fails(INDEX, "merge(" + far + ")", () -> x.merge(far));
        }
        expect.fails(INDEX, "merge(0) of nothing", () -> new CodedColumn().merge(0));
        CodedColumn full = Build.pages(p(1, 2, 3, 4, 5, 6), p(7, 8, 9, 10, 11, 12), p(13));
        full.setLimit(1);
        expect.is(21 + 22 + 17, "merge(0) to 12 values, beyond the limit", () -> full.merge(0));
        expect.fails(STATE, "merge(0) to 13 values", () -> full.merge(0));
        expect.is(7, "at(6) behind merge", () -> full.at(6));
        expect.is(NONE, "page(0, 8) of two without pins", () -> full.page(0, 8));
    }

    private static void compact() {
        int[] full = {0, 1023, 1, 1022, 2, 1021, 3, 1020, 4, 1019, 5, 1018};
        CodedColumn x = Build.pages(p(7), p(7), p(7), full, p(7, 7), p(7));
        expect.is(3, "compact()", x::compact);
        holds("compact()", x, p(7, 7, 7), full, p(7, 7, 7));
        expect.is(21 + 127 + 21, "about(3) behind compact()", () -> x.about(3));
        expect.is(0, "compact() again", x::compact);
        expect.is(0, "compact() of nothing", () -> new CodedColumn().compact());
        CodedColumn tooLong = Build.pages(p(7, 7, 7, 7, 7, 7, 7), p(7, 7, 7, 7, 7, 7), p(7));
        expect.is(1, "compact() of pages that are too long together", tooLong::compact);
        expect.is(7, "page(0, 1) behind that", () -> tooLong.page(0, 1));
        CodedColumn pins = Build.pages(p(7, 7), p(7, 7));
        pins.pin(0, 0);
        pins.pin(1, 0);
        expect.is(1, "compact() of two pages that are pinned to plain", pins::compact);
        expect.is(0, "page(0, 8) behind that", () -> pins.page(0, 8));
        // A merge that saves nothing is left out: 21 and 21 + 2 * 7 apart, 21 + 5 * 7 together.
        CodedColumn even = Build.pages(p(0, 0, 0), p(0, 100));
        even.pin(0, 3);
        even.pin(1, 3);
        expect.is(0, "compact() where a merge saves nothing", even::compact);
        // Steps of 31 bits and a run of 21 apart, small numbers of 21 + 9 * 4 together.
        CodedColumn worse = Build.pages(p(10, 11, 12, 13, 14, 15), p(3, 3, 3));
        expect.is(0, "compact() where a merge makes it greater", worse::compact);
        // 7 7 7 with 500 20 only saves when 500 20 has been merged with what is behind it.
        CodedColumn again = Build.pages(p(7, 7, 7), p(500, 20), p(7, 7));
        expect.is(2, "compact() again and again", again::compact);
        expect.is(7 + 4 + 30 + 14, "about(3) behind that", () -> again.about(3));
        // The first page that saves is merged first: 1 1 with 1 1, so that the third page stays alone.
        CodedColumn first = Build.pages(p(1, 1, 1, 1), p(1, 1, 1, 1), p(1, 1, 1, 1, 1));
        expect.is(1, "compact() from the first page on", first::compact);
        expect.is(8, "page(0, 1) behind that", () -> first.page(0, 1));
    }

    private static void pin() {
        CodedColumn x = Build.pages(p(10, 11, 12, 13, 14, 15), p(3));
        int[] want = {67, 89, 91, 39, 31};
        for (int coding = 0; coding <= 4; coding++) {
            int asked = coding;
            expect.is(want[coding], "pin(0, " + coding + ")", () -> x.pin(0, asked));
            expect.is(coding, "page(0, 8) behind that", () -> x.page(0, 8));
            expect.is(coding, "page(0, 2) behind that", () -> x.page(0, 2));
            expect.is(NONE, "page(1, 8) behind that", () -> x.page(1, 8));
        }
        x.pin(0, 2);
        expect.is(31, "pin(0, NONE)", () -> x.pin(0, NONE));
        expect.is(NONE, "page(0, 8) behind that", () -> x.page(0, 8));
        expect.fails(ARGUMENT, "pin(0, -1)", () -> x.pin(0, -1));
        expect.fails(ARGUMENT, "pin(0, 5)", () -> x.pin(0, 5));
        expect.fails(ARGUMENT, "pin(0, NONE + 1)", () -> x.pin(0, NONE + 1));
        expect.fails(INDEX, "pin(2, 0)", () -> x.pin(2, 0));
        for (int far : FAR) {
            expect.fails(INDEX, "pin(" + far + ", 5)", () -> x.pin(far, 5));
        }
    }

    private static void setLimit() {
        CodedColumn x = new CodedColumn();
        expect.is(8, "setLimit(12)", () -> x.setLimit(12));
        expect.is(12, "setLimit(1)", () -> x.setLimit(1));
        expect.is(1, "setLimit(1) again", () -> x.setLimit(1));
        expect.is(1, "about(2)", () -> x.about(2));
        expect.fails(ARGUMENT, "setLimit(0)", () -> x.setLimit(0));
        expect.fails(ARGUMENT, "setLimit(13)", () -> x.setLimit(13));
        expect.fails(ARGUMENT, "setLimit(-1)", () -> x.setLimit(-1));
        expect.is(1, "about(2) behind what fails", () -> x.about(2));
    }

    private static void takes(int want, String text, int... values) {
        CodedColumn x = Build.pages(p(1));
        x.pin(0, 2);
        x.setLimit(1);
        Build.write(x, text);
        expect.is(want, "take() of " + text, x::take);
        holds("take() of " + text, x, p(1), values);
        expect.is(NONE, "the pin behind take()", () -> x.page(1, 8));
        expect.is(Build.withoutGaps(text).length(), "the text behind take()", x::clearText);
    }

    private static void take() {
        takes(0, "000 0010 1111111111 0000000001", 1023, 1);
        takes(1, "000 0010 0000000111 0000000111", 7, 7);
        takes(1, "001 0100 0011 0000000101 1110000100 0000000101 00 01 00 10", 5, 900, 5, 5);
        takes(0, "001 0001 0001 1000000000", 512);
        takes(1, "010 0100 0000000101 0001 0000000101 0011", 5, 5, 5, 5);
        takes(2, "010 0111 0000000011 0011 1100100000 0100", 3, 3, 3, 800, 800, 800, 800);
        takes(3, "011 0100 0000000011 1010 0000000000 0000000101 0000000000 0000000101", 3, 8, 3, 8);
        takes(4, "100 0110 0000001010 0101 00001 00001 00001 00001 11111", 10, 11, 12, 13, 14, 13);
        takes(0, "100 0010 0000000000 1011 01111111111", 0, 1023);
        takes(0, "100 0010 1111111111 1011 10000000001", 1023, 0);
        CodedColumn x = Build.text("000 0001 111111111");
        expect.fails(STATE, "take() of a text that ends too soon", x::take);
        x.append('1');
        expect.is(0, "take() of the whole text", x::take);
        expect.is(0, "take() once more", x::take);
        x.append('1');
        expect.fails(STATE, "take() of a text that is too long", x::take);
        holds("take() twice", x, p(1023), p(1023));
        expect.fails(STATE, "take() of no text", () -> new CodedColumn().take());
        CodedColumn ten = tenPages();
        Build.write(ten, "000 0001 1111111111");
        expect.fails(STATE, "take() with ten pages", ten::take);
        ten.remove(3);
        expect.is(0, "take() with nine pages", ten::take);
        expect.is(1023, "at(9) behind that", () -> ten.at(9));
    }

    private static void undo() {
        CodedColumn x = new CodedColumn();
        expect.fails(STATE, "undo() of nothing", x::undo);
        for (int v = 0; v < 20; v++) {
            x.add(v);
        }
        for (int left = 13; left >= 0; left--) {
            int values = left + 6;
            expect.is(left, "undo()", x::undo);
            expect.is(values, "about(0) behind undo()", () -> x.about(0));
        }
        expect.fails(STATE, "the 15th undo()", x::undo);
        holds("14 times undo()", x, p(0, 1, 2, 3, 4, 5));
        x.add(6);
        expect.is(0, "undo() of one more", x::undo);
        // Everything comes back: values, pages, pins and the limit.
        CodedColumn y = Build.pages(p(1, 2, 3), p(4, 5), p(6));
        y.pin(1, 3);
        y.cut(0, 1);
        y.undo();
        y.merge(0);
        y.undo();
        y.remove(5);
        y.undo();
        y.put(0, 9);
        y.undo();
        y.setLimit(2);
        y.undo();
        y.pin(1, 0);
        y.undo();
        y.compact();
        y.undo();
        holds("undo() of each action", y, p(1, 2, 3), p(4, 5), p(6));
        expect.is(3, "page(1, 8) behind undo()", () -> y.page(1, 8));
        expect.is(8, "about(2) behind undo()", () -> y.about(2));
        expect.is(1, "about(5) behind undo()", () -> y.about(5));
    }

    private static void remembers(CodedColumn x, int more, String call, Expect.Call made) {
        Expect.outcome(made);
        int left = 0;
        while (left <= 14 && !Expect.outcome(x::undo).equals("IllegalStateException")) {
            left++;
        }
        expect.tell("the states remembered by " + call, String.valueOf(more), String.valueOf(left));
    }

    /** What does not throw is an action, also if nothing becomes different; nothing else is one. */
    private static void whatIsAnAction() {
        CodedColumn x = new CodedColumn();
        remembers(x, 1, "compact() of nothing", x::compact);
        remembers(x, 1, "setLimit(8)", () -> x.setLimit(8));
        remembers(x, 0, "add(1024)", () -> x.add(1024));
        x.add(5);
        x.save(0);
        x.restore(0);
        remembers(x, 1, "put(0, 5)", () -> x.put(0, 5));
        remembers(x, 1, "pin(0, NONE)", () -> x.pin(0, NONE));
        remembers(x, 0, "put(0, -1)", () -> x.put(0, -1));
        remembers(x, 0, "remove(1)", () -> x.remove(1));
        remembers(x, 0, "cut(0, 1)", () -> x.cut(0, 1));
        remembers(x, 0, "merge(0)", () -> x.merge(0));
        remembers(x, 0, "pin(0, 5)", () -> x.pin(0, 5));
        remembers(x, 0, "setLimit(0)", () -> x.setLimit(0));
        remembers(x, 0, "take() of no text", x::take);
        remembers(x, 0, "append('0')", () -> x.append('0'));
        remembers(x, 0, "save(1)", () -> x.save(1));
        remembers(x, 0, "restore(0)", () -> x.restore(0));
        remembers(x, 0, "runScript(1, 100005)", () -> x.runScript(1, 100005));
        remembers(x, 0, "simulate(1, 9)", () -> x.simulate(1, 9));
        remembers(x, 0, "smallest()", x::smallest);
        remembers(x, 0, "bestNext(0)", () -> x.bestNext(0));
        holds("all that", x, p(5));
        Build.write(x, "000 0001 0000000001");
        remembers(x, 1, "take()", x::take);
        remembers(x, 1, "add(5)", () -> x.add(5));
        remembers(x, 1, "remove(0)", () -> x.remove(0));
        holds("undo() of the last", x, p(5));
        expect.is(17, "the text behind undo()", x::clearText);
    }
}
