/**
 * "## Terms": the column, codings and scans. Each sentence that names a bound has a test of its own
 * under its words, at the bound and just beyond it.
 */
public final class TermsTest {
    private static final int NONE = CodedColumn.NONE;
    private static final Class<IllegalArgumentException> ARGUMENT = IllegalArgumentException.class;
    private static final Class<IndexOutOfBoundsException> INDEX = IndexOutOfBoundsException.class;
    private static final Class<IllegalStateException> STATE = IllegalStateException.class;

    private static final Expect expect = new Expect();

    public static void main(String[] args) {
        valuesAreFrom0To1023();
        valuesAreNumberedFrom0();
        pagesAreAtMost10();
        pagesHave1To12Values();
        limitIs1To12();
        widths();
        codesOfTwelve();
        wordsComeInOrder();
        runsAreAsLongAsPossible();
        smallWidths();
        stepWidths();
        withoutSteps();
        smallestSizeIsChosen();
        lowestOfSeveralIsChosen();
        pinnedPageKeepsItsCoding();
        scanOutside();
        scanAtBothEnds();
        scanOfWords();
        scanOfRunsAndOthers();
        expect.end();
    }

    private static int[] p(int... values) {
        return values;
    }

    private static CodedColumn one(int... values) {
        return Build.pages(values);
    }

    /** "The column is a row of values, each from 0 to 1023" */
    private static void valuesAreFrom0To1023() {
        CodedColumn x = new CodedColumn();
        expect.is(0, "add(0)", () -> x.add(0));
        expect.is(0, "add(1023)", () -> x.add(1023));
        expect.is(1023, "put(1, 0)", () -> x.put(1, 0));
        expect.is(0, "put(0, 1023)", () -> x.put(0, 1023));
        expect.fails(ARGUMENT, "add(-1)", () -> x.add(-1));
        expect.fails(ARGUMENT, "add(1024)", () -> x.add(1024));
        expect.fails(ARGUMENT, "put(0, -1)", () -> x.put(0, -1));
        expect.fails(ARGUMENT, "put(0, 1024)", () -> x.put(0, 1024));
        expect.tell("the values", "limit 8 [1023 0]", Trace.state(x));
    }

    /** "numbered from 0" */
    private static void valuesAreNumberedFrom0() {
        CodedColumn x = Build.pages(p(11, 12), p(13));
        expect.fails(INDEX, "at(-1)", () -> x.at(-1));
        expect.is(11, "at(0)", () -> x.at(0));
        expect.is(13, "at(2)", () -> x.at(2));
        expect.fails(INDEX, "at(3)", () -> x.at(3));
        expect.fails(INDEX, "page(-1, 0)", () -> x.page(-1, 0));
        expect.is(0, "page(0, 0)", () -> x.page(0, 0));
        expect.is(2, "page(1, 0)", () -> x.page(1, 0));
        expect.fails(INDEX, "page(2, 0)", () -> x.page(2, 0));
    }

    /** "They lie in at most 10 pages, one behind the other, numbered from 0" */
    private static void pagesAreAtMost10() {
        CodedColumn x = new CodedColumn();
        x.setLimit(1);
        for (int v = 0; v < 10; v++) {
            int page = v;
            expect.is(page, "add(" + page + ")", () -> x.add(page));
        }
        expect.fails(STATE, "add(10) to ten pages", () -> x.add(10));
        expect.is(10, "about(1) of ten pages", () -> x.about(1));
        expect.is(9, "page(9, 0)", () -> x.page(9, 0));
        expect.fails(INDEX, "page(10, 0)", () -> x.page(10, 0));
        Build.write(x, "000 0001 0000000111");
        expect.fails(STATE, "take() to ten pages", x::take);
        x.merge(0);
        expect.fails(ARGUMENT, "cut(1, 1) of one value", () -> x.cut(1, 1));
        expect.is(170, "cut(0, 1) to ten pages", () -> x.cut(0, 1));
        x.merge(0);
        expect.is(9, "add(10) to nine pages", () -> x.add(10));
        expect.fails(STATE, "cut(0, 1) of ten pages", () -> x.cut(0, 1));
        x.remove(5);
        expect.is(0, "take() to nine pages", x::take);
        expect.is(10, "about(1) behind that", () -> x.about(1));
    }

    /** "each with 1 to 12 values" */
    private static void pagesHave1To12Values() {
        CodedColumn x = new CodedColumn();
        x.setLimit(12);
        for (int i = 0; i < 120; i++) {
            int v = i;
            expect.is(v / 12, "add(" + v + ")", () -> x.add(v));
        }
        expect.fails(STATE, "add(120) to 120 values", () -> x.add(120));
        expect.is(120, "about(0) of 120 values", () -> x.about(0));
        expect.is(12, "page(0, 1) of 120 values", () -> x.page(0, 1));
        expect.is(12, "page(9, 1) of 120 values", () -> x.page(9, 1));
        expect.is(108, "page(9, 0) of 120 values", () -> x.page(9, 0));
        expect.is(119, "at(119)", () -> x.at(119));
        expect.fails(INDEX, "at(120)", () -> x.at(120));
        expect.fails(STATE, "merge(0) of 24 values", () -> x.merge(0));
        for (int left = 11; left >= 1; left--) {
            x.remove(0);
        }
        expect.is(1, "page(0, 1) with one value left", () -> x.page(0, 1));
        expect.fails(STATE, "merge(0) of 13 values", () -> x.merge(0));
        expect.is(11, "remove(0) of the page's last value", () -> x.remove(0));
        expect.is(12, "page(0, 1) of the next page", () -> x.page(0, 1));
        expect.is(9, "about(1) behind that", () -> x.about(1));
    }

    /** "The limit is 1 to 12, at first 8." */
    private static void limitIs1To12() {
        CodedColumn x = new CodedColumn();
        for (int i = 0; i < 9; i++) {
            int page = i / 8;
            expect.is(page, "add(5) as value " + i, () -> x.add(5));
        }
        expect.fails(ARGUMENT, "setLimit(0)", () -> x.setLimit(0));
        expect.fails(ARGUMENT, "setLimit(13)", () -> x.setLimit(13));
        expect.is(8, "setLimit(1), the first", () -> x.setLimit(1));
        expect.is(2, "add(5) with the limit 1", () -> x.add(5));
        expect.is(1, "setLimit(12)", () -> x.setLimit(12));
        for (int i = 1; i < 13; i++) {
            int page = i < 12 ? 2 : 3;
            expect.is(page, "add(5) with the limit 12, value " + i, () -> x.add(5));
        }
        expect.is(12, "about(2)", () -> x.about(2));
    }

    /** "The width of a number ... is the number of bits that it needs: 0 for 0, 1 for 1, 2 for 2 and 3, and so on." */
    private static void widths() {
        int[][] widths = {
            {0, 0}, {1, 1}, {2, 2}, {3, 2}, {4, 3}, {7, 3}, {8, 4}, {15, 4}, {16, 5}, {31, 5}, {32, 6}, {63, 6},
            {64, 7}, {127, 7}, {128, 8}, {255, 8}, {256, 9}, {511, 9}, {512, 10}, {1023, 10},
        };
        for (int[] width : widths) {
            CodedColumn x = one(0, width[0], 0);
            expect.is(21 + 3 * width[1], "size(0, 3) of 0 " + width[0] + " 0", () -> x.size(0, 3));
        }
        // Words: the width of d - 1, for d from 1 to 12.
        int[] ofWords = {0, 1, 2, 2, 3, 3, 3, 3, 4, 4, 4, 4};
        for (int d = 1; d <= 12; d++) {
            int[] values = new int[12];
            for (int i = 0; i < 12; i++) {
                values[i] = 50 * (i % d);
            }
            CodedColumn x = one(values);
            int want = 7 + 4 + 10 * d + 12 * ofWords[d - 1];
            expect.is(want, "size(0, 1) of 12 values with " + d + " words", () -> x.size(0, 1));
        }
    }

    private static void bits(CodedColumn x, String code) {
        String bits = Build.withoutGaps(code);
        StringBuilder got = new StringBuilder();
        for (int i = 0; i < bits.length(); i++) {
            got.append(x.bit(0, i));
        }
        expect.tell("the bits of page 0 pinned to " + x.page(0, 8), bits, got.toString());
        expect.is(bits.length(), "page(0, 3) of " + code, () -> x.page(0, 3));
        expect.is(NONE, "the bit behind " + code, () -> x.bit(0, bits.length()));
    }

    /** "three bits for the coding, four bits for n, and then": the longest codes, to their last bits. */
    private static void codesOfTwelve() {
        CodedColumn x = one(0, 1023, 1, 1022, 2, 1021, 3, 1020, 4, 1019, 5, 1018);
        String[] ten = {
            "0000000000", "1111111111", "0000000001", "1111111110", "0000000010", "1111111101",
            "0000000011", "1111111100", "0000000100", "1111111011", "0000000101", "1111111010",
        };
        String all = String.join("", ten);
        x.pin(0, 0);
        bits(x, "000 1100" + all);
        x.pin(0, 1);
        bits(x, "001 1100 1100" + all + "0000 0001 0010 0011 0100 0101 0110 0111 1000 1001 1010 1011");
        x.pin(0, 2);
        bits(x, "010 1100" + String.join("0001", ten) + "0001");
        x.pin(0, 3);
        bits(x, "011 1100 0000000000 1010" + all);
        x.pin(0, 4);
        // Steps by turns up and down, each one less than the last: 1023, -1022, 1021 .. 1013, in eleven bits.
        StringBuilder steps = new StringBuilder();
        for (int s = 1023; s >= 1013; s--) {
            int written = s % 2 == 1 ? s : 2048 - s;
            steps.append(Integer.toBinaryString(2048 + written).substring(1));
        }
        bits(x, "100 1100 0000000000 1011" + steps);
    }

    /** "the words are the different values, in the order in which they come first ... the number of its word, from 0" */
    private static void wordsComeInOrder() {
        CodedColumn x = one(900, 5, 900, 1023, 5, 0);
        x.pin(0, 1);
        bits(x, "001 0110 0100 1110000100 0000000101 1111111111 0000000000 00 01 00 10 01 11");
        CodedColumn alike = one(9, 9, 9);
        alike.pin(0, 1);
        bits(alike, "001 0011 0001 0000001001");
        expect.is(1, "page(0, 6) of values that are alike", () -> alike.page(0, 6));
    }

    /** "the values are cut into runs of values that are alike, as long as possible" */
    private static void runsAreAsLongAsPossible() {
        CodedColumn x = one(9, 9, 4, 9, 9, 9, 4);
        x.pin(0, 2);
        bits(x, "010 0111 0000001001 0010 0000000100 0001 0000001001 0011 0000000100 0001");
        expect.is(4, "page(0, 7)", () -> x.page(0, 7));
        CodedColumn twelve = one(3, 3, 3, 3, 3, 3, 3, 3, 3, 3, 3, 3);
        twelve.pin(0, 2);
        bits(twelve, "010 1100 0000000011 1100");
        expect.is(1, "page(0, 7) of twelve that are alike", () -> twelve.page(0, 7));
        // A run ends with its page.
        CodedColumn two = Build.pages(p(3, 3), p(3, 3));
        expect.is(1, "page(1, 7) of two pages that are alike", () -> two.page(1, 7));
        expect.is(21, "size(1, 2) of two pages that are alike", () -> two.size(1, 2));
    }

    /** "four bits for the width w of (the greatest value less the smallest one), and w bits for each value less" */
    private static void smallWidths() {
        CodedColumn x = one(1023, 1020, 1021, 1023);
        x.pin(0, 3);
        bits(x, "011 0100 1111111100 0010 11 00 01 11");
        CodedColumn alike = one(1023, 1023);
        alike.pin(0, 3);
        bits(alike, "011 0010 1111111111 0000");
        CodedColumn whole = one(1023, 0);
        whole.pin(0, 3);
        bits(whole, "011 0010 0000000000 1010 1111111111 0000000000");
    }

    /** "w is the smallest number from 1 to 11 with which all steps are from -2^(w-1) to 2^(w-1) - 1" */
    private static void stepWidths() {
        for (int w = 1; w <= 10; w++) {
            int half = 1 << (w - 1);
            stepWidth(w, -half);
            stepWidth(w, half - 1);
            stepWidth(w + 1, half);
            stepWidth(w + 1, -half - 1);
        }
        stepWidth(11, 1023);
        stepWidth(11, -1023);
        CodedColumn x = one(500, 501, 499, 499);
        x.pin(0, 4);
        bits(x, "100 0100 0111110100 0010 01 10 00");
        CodedColumn down = one(500, 499, 499);
        down.pin(0, 4);
        bits(down, "100 0011 0111110100 0001 1 0");
        // The widest step counts, wherever it stands.
        expect.is(21 + 3 * 4, "size(0, 4) of 5 12 12 12", () -> one(5, 12, 12, 12).size(0, 4));
        expect.is(21 + 3 * 4, "size(0, 4) of 5 5 5 12", () -> one(5, 5, 5, 12).size(0, 4));
    }

    private static void stepWidth(int w, int step) {
        int from = step < 0 ? 1023 : 0;
        CodedColumn x = one(from, from + step);
        expect.is(21 + w, "size(0, 4) with the step " + step, () -> x.size(0, 4));
        x.pin(0, 4);
        StringBuilder width = new StringBuilder();
        for (int i = 17; i < 21; i++) {
            width.append(x.bit(0, i));
        }
        expect.is(w, "the width with the step " + step, () -> Integer.parseInt(width.toString(), 2));
    }

    /** "(1 if there are no steps)" */
    private static void withoutSteps() {
        CodedColumn x = one(5);
        x.pin(0, 4);
        bits(x, "100 0001 0000000101 0001");
    }

    private static void chooses(int coding, int[] sizes, int... values) {
        CodedColumn x = one(values);
        StringBuilder told = new StringBuilder("the coding of");
        for (int v : values) {
            told.append(' ').append(v);
        }
        for (int c = 0; c <= 4; c++) {
            int asked = c;
            expect.is(sizes[c], told + ", size(0, " + c + ")", () -> x.size(0, asked));
        }
        expect.is(coding, told.toString(), () -> x.page(0, 2));
        expect.is(sizes[coding], told + ", its size", () -> x.page(0, 3));
        for (int i = 0; i < 3; i++) {
            int place = i;
            expect.is(coding >> (2 - place) & 1, told + ", bit " + place, () -> x.bit(0, place));
        }
    }

    /** "A page that is not pinned has the coding with the smallest size": by few bits. */
    private static void smallestSizeIsChosen() {
        chooses(0, p(17, 21, 21, 21, 21), 1000);
        chooses(1, p(57, 36, 77, 41, 41), 0, 8, 0, 8, 0);
        chooses(2, p(77, 38, 35, 42, 45), 0, 0, 0, 7, 7, 7, 7);
        chooses(3, p(87, 39, 63, 37, 42), 7, 7, 7, 7, 9, 7, 9, 9);
        chooses(4, p(27, 33, 35, 29, 26), 0, 8);
        chooses(4, p(27, 33, 35, 31, 26), 32, 16);
    }

    /** "of several the lowest one": each pair of codings that can be the smallest together. */
    private static void lowestOfSeveralIsChosen() {
        chooses(0, p(27, 33, 35, 31, 27), 0, 16);
        chooses(0, p(127, 127, 175, 141, 142), 0, 1023, 100, 900, 200, 800, 300, 700, 0, 1023, 100, 900);
        chooses(0, p(77, 82, 77, 91, 87), 0, 0, 0, 1023, 100, 900, 200);
        chooses(1, p(47, 35, 35, 61, 54), 5, 5, 900, 900);
        chooses(1, p(57, 36, 77, 36, 37), 0, 5, 0, 5, 0);
        chooses(1, p(127, 65, 175, 69, 65), 0, 7, 14, 7, 0, 7, 14, 7, 0, 7, 14, 7);
        chooses(1, p(27, 21, 21, 21, 22), 4, 4);
        chooses(2, p(77, 38, 35, 35, 39), 0, 0, 0, 3, 3, 3, 3);
        chooses(2, p(87, 39, 35, 37, 35), 2, 2, 2, 2, 0, 0, 0, 0);
        chooses(3, p(27, 33, 35, 23, 23), 1, 2);
    }

    /** "a pinned one has that to which it is pinned", also if it is larger. */
    private static void pinnedPageKeepsItsCoding() {
        int[] want = {127, 179, 175, 141, 142};
        CodedColumn x = one(0, 1023, 1, 1022, 2, 1021, 3, 1020, 4, 1019, 5, 1018);
        for (int coding = 0; coding <= 4; coding++) {
            int asked = coding;
            x.pin(0, coding);
            expect.is(coding, "page(0, 2) pinned to " + coding, () -> x.page(0, 2));
            expect.is(want[coding], "page(0, 3) pinned to " + coding, () -> x.page(0, 3));
            expect.is(want[coding], "about(3) pinned to " + coding, () -> x.about(3));
            x.put(11, 1019);
            expect.is(asked, "page(0, 2) behind put", () -> x.page(0, 2));
            x.put(11, 1018);
        }
        x.pin(0, NONE);
        expect.is(0, "page(0, 2) not pinned", () -> x.page(0, 2));
    }

    private static void cost(String of, CodedColumn x, int v, int want) {
        expect.is(want, "scan(" + v + ", false) of " + of, () -> x.scan(v, false));
    }

    /** "For each page it costs 1 ...; if the value is not between them (both included), that is all." */
    private static void scanOutside() {
        cost("nothing", new CodedColumn(), 5, 0);
        for (int coding = 0; coding <= 4; coding++) {
            CodedColumn x = one(10, 20, 20, 30);
            x.pin(0, coding);
            cost("coding " + coding, x, 9, 1);
            cost("coding " + coding, x, 31, 1);
            cost("coding " + coding, x, 0, 1);
            cost("coding " + coding, x, 1023, 1);
        }
        CodedColumn ten = Build.pages(p(5), p(5), p(5), p(5), p(5), p(5), p(5), p(5), p(5), p(5));
        cost("ten pages", ten, 6, 10);
        cost("ten pages", ten, 5, 20);
    }

    /** "(both included)": the smallest and the greatest value of a page are looked for in it. */
    private static void scanAtBothEnds() {
        int[] first = {1 + 4, 1 + 1 + 4, 1 + 3, 1 + 4, 1 + 4};
        int[] last = {1 + 4, 1 + 3 + 4, 1 + 3, 1 + 4, 1 + 4};
        for (int coding = 0; coding <= 4; coding++) {
            CodedColumn x = one(10, 20, 20, 30);
            x.pin(0, coding);
            cost("coding " + coding, x, 10, first[coding]);
            cost("coding " + coding, x, 30, last[coding]);
        }
        CodedColumn edges = one(0, 1023);
        cost("0 and 1023", edges, 0, 1 + 2);
        cost("0 and 1023", edges, 1023, 1 + 2);
    }

    /** "with words 1 for each word up to the one that is looked for (all, if there is none), and if there is one, 1 for each value" */
    private static void scanOfWords() {
        CodedColumn x = one(30, 10, 30, 20, 10);
        x.pin(0, 1);
        cost("words", x, 30, 1 + 1 + 5);
        cost("words", x, 10, 1 + 2 + 5);
        cost("words", x, 20, 1 + 3 + 5);
        cost("words", x, 11, 1 + 3);
        cost("words", x, 29, 1 + 3);
    }

    /** "with runs 1 for each run; with the other codings 1 for each value", whether it is there or not. */
    private static void scanOfRunsAndOthers() {
        int[] costs = {1 + 6, 0, 1 + 4, 1 + 6, 1 + 6};
        for (int coding = 0; coding <= 4; coding++) {
            if (coding == 1) {
                continue;
            }
            CodedColumn x = one(30, 30, 10, 30, 20, 20);
            x.pin(0, coding);
            for (int v : p(10, 11, 20, 29, 30)) {
                cost("coding " + coding, x, v, costs[coding]);
            }
        }
        // Without a pin the coding counts that the page has chosen: runs here, and not each value.
        CodedColumn free = one(3, 3, 3, 800, 800, 800, 800);
        cost("runs, not pinned", free, 3, 1 + 2);
        free.put(1, 800);
        cost("words, not pinned", free, 800, 1 + 2 + 7);
    }
}
