/** Promises 22 to 25: gain, bestCut, smallest, bestNext. */
public final class WouldBeTest {
    private static final int NONE = CodedColumn.NONE;
    private static final Class<IndexOutOfBoundsException> INDEX = IndexOutOfBoundsException.class;
    private static final int[] FAR = {-1, 5, 10, 120, Integer.MIN_VALUE, Integer.MAX_VALUE};

    private static final Expect expect = new Expect();

    public static void main(String[] args) {
        gain();
        bestCut();
        smallest();
        bestNext();
        expect.end();
    }

    private static int[] p(int... values) {
        return values;
    }

    private static void gain() {
        CodedColumn x = Build.pages(p(7), p(7), p(500, 20), p(1, 2, 3, 4, 5, 6, 7, 8, 9, 10, 11));
        expect.is(17 + 17 - 21, "gain(0)", () -> x.gain(0));
        // 7 500 20 is best plain, with 37 bits: 7 bits less than 17 and 27.
        expect.is(7, "gain(1)", () -> x.gain(1));
        expect.is(NONE, "gain(2): 13 values together", () -> x.gain(2));
        expect.is(NONE, "gain(3): none behind it", () -> x.gain(3));
        expect.is(4, "about(1) behind gain", () -> x.about(1));
        for (int far : FAR) {
            expect.fails(INDEX, "gain(" + far + ")", () -> x.gain(far));
        }
        expect.fails(INDEX, "gain(4)", () -> x.gain(4));
        expect.fails(INDEX, "gain(0) of nothing", () -> new CodedColumn().gain(0));
        CodedColumn pins = Build.pages(p(1, 1), p(1000, 1000));
        pins.setLimit(1);
        expect.is(21 + 21 - 35, "gain(0) beyond the limit", () -> pins.gain(0));
        pins.pin(0, 3);
        pins.pin(1, 3);
        expect.is(21 + 21 - (21 + 40), "gain(0) with one pin", () -> pins.gain(0));
        pins.pin(1, 0);
        expect.is(21 + 27 - 35, "gain(0) with two pins", () -> pins.gain(0));
        CodedColumn even = Build.pages(p(0, 0, 0), p(0, 100));
        even.pin(0, 3);
        even.pin(1, 3);
        expect.is(0, "gain(0) of 21 + 35 and 56 bits", () -> even.gain(0));
        CodedColumn worse = Build.pages(p(10, 11, 12, 13, 14, 15), p(3, 3, 3));
        expect.is(31 + 21 - 57, "gain(0) of what becomes greater", () -> worse.gain(0));
        CodedColumn twelve = Build.pages(p(1, 1, 1, 1, 1, 1), p(1, 1, 1, 1, 1, 1));
        expect.is(21, "gain(0) of 12 values together", () -> twelve.gain(0));
    }

    private static void bestCut() {
        CodedColumn x = Build.pages(p(7), p(7, 7, 7, 7, 9, 7, 9, 9), p(1, 1, 1, 900, 900), p(1, 2));
        expect.is(NONE, "bestCut(0) of one value", () -> x.bestCut(0));
        // 21 bits for 7 7 7 7, and 21 + 8 small or 21 + 4 as words of what is behind.
        expect.is(4, "bestCut(1)", () -> x.bestCut(1));
        expect.is(3, "bestCut(2)", () -> x.bestCut(2));
        expect.is(1, "bestCut(3)", () -> x.bestCut(3));
        for (int far : FAR) {
            expect.fails(INDEX, "bestCut(" + far + ")", () -> x.bestCut(far));
        }
        expect.fails(INDEX, "bestCut(0) of nothing", () -> new CodedColumn().bestCut(0));
        x.pin(2, 0);
        expect.is(1, "bestCut(2) pinned to plain: all are alike", () -> x.bestCut(2));
        x.pin(2, 3);
        expect.is(3, "bestCut(2) pinned to small", () -> x.bestCut(2));
        expect.is(4, "about(1) behind bestCut", () -> x.about(1));
        CodedColumn ten = Build.pages(p(0), p(1), p(2), p(3), p(4), p(5), p(6), p(7), p(8), p(5, 5, 9));
        expect.is(2, "bestCut(9) of ten pages", () -> ten.bestCut(9));
    }

    private static void smallest() {
        expect.is(0, "smallest() of nothing", () -> new CodedColumn().smallest());
        expect.is(17, "smallest() of one value", () -> Build.pages(p(5)).smallest());
        CodedColumn x = Build.pages(p(7), p(7, 7, 500), p(500, 500, 500));
        expect.is(35, "smallest() of two runs", x::smallest);
        x.pin(0, 4);
        x.pin(1, 3);
        expect.is(35, "smallest() with pins", x::smallest);
        expect.is(3, "about(1) behind smallest()", () -> x.about(1));
        // Twelve values that are alike are 21 bits, and the 13th is alone, with 17.
        CodedColumn thirteen = Build.pages(p(7, 7, 7, 7, 7, 7), p(7, 7, 7, 7, 7, 7, 7));
        expect.is(38, "smallest() of 13 values that are alike", thirteen::smallest);
        CodedColumn most = new CodedColumn();
        most.setLimit(12);
        for (int i = 0; i < 120; i++) {
            most.add(7 + i / 60);
        }
        expect.is(210, "smallest() of 120 values", most::smallest);
        most.put(119, 500);
        // Nine pages of twelve, and two runs: eleven times 8, and 500.
        expect.is(9 * 21 + 35, "smallest() of 120 values, the last one another", most::smallest);
        x.remove(6);
        expect.is(35, "smallest() with one value less", x::smallest);
        for (int i = 5; i >= 1; i--) {
            x.remove(i);
        }
        expect.is(17, "smallest() with one value left", x::smallest);
        CodedColumn ten = Build.pages(p(0), p(1023), p(0), p(1023), p(0), p(1023), p(0), p(1023), p(0), p(1023));
        // Two words, and one bit for each value.
        expect.is(31 + 10, "smallest() of 0 and 1023 by turns", ten::smallest);
    }

    private static void bestNext() {
        CodedColumn x = Build.pages(p(7, 7, 7), p(10, 11, 12, 13, 14, 15), p(1000),
            p(1, 2, 3, 4, 5, 6, 7, 8, 9, 10, 11, 12), p(3, 3, 3, 800, 800, 800, 800));
        x.setLimit(1);
        expect.is(7, "bestNext(0)", () -> x.bestNext(0));
        // Steps of two bits go from -2 to 1: the smallest value behind 15 is 13.
        expect.is(13, "bestNext(1)", () -> x.bestNext(1));
        expect.is(1000, "bestNext(2)", () -> x.bestNext(2));
        expect.is(NONE, "bestNext(3) of 12 values", () -> x.bestNext(3));
        expect.is(800, "bestNext(4)", () -> x.bestNext(4));
        for (int far : FAR) {
            expect.fails(INDEX, "bestNext(" + far + ")", () -> x.bestNext(far));
        }
        expect.fails(INDEX, "bestNext(0) of nothing", () -> new CodedColumn().bestNext(0));
        x.pin(0, 0);
        expect.is(0, "bestNext(0) pinned to plain", () -> x.bestNext(0));
        x.pin(4, 1);
        expect.is(3, "bestNext(4) pinned to words", () -> x.bestNext(4));
        x.pin(1, 3);
        // Three bits reach from 8 to 15, or from 10 to 17.
        expect.is(8, "bestNext(1) pinned to small", () -> x.bestNext(1));
        x.pin(2, 4);
        // A step of one bit is -1 or 0.
        expect.is(999, "bestNext(2) pinned to steps", () -> x.bestNext(2));
        expect.is(1000, "at(9) behind bestNext", () -> x.at(9));
        CodedColumn top = Build.pages(p(1023, 1023));
        expect.is(1023, "bestNext(0) of 1023 1023", () -> top.bestNext(0));
        CodedColumn eleven = Build.pages(p(5, 5, 5, 5, 5, 5, 5, 5, 5, 5, 5));
        expect.is(5, "bestNext(0) of 11 values", () -> eleven.bestNext(0));
    }
}
