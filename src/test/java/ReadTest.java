/** Promises 5 to 11: about, at, page, bit, size, scan, sum. */
public final class ReadTest {
    private static final int NONE = CodedColumn.NONE;
    private static final Class<IllegalArgumentException> ARGUMENT = IllegalArgumentException.class;
    private static final Class<IndexOutOfBoundsException> INDEX = IndexOutOfBoundsException.class;
    private static final int[] FAR = {-1, 5, 10, 120, Integer.MIN_VALUE, Integer.MAX_VALUE};

    private static final Expect expect = new Expect();

    /** A page for each coding, with the codes that the document gives them, worked out by hand. */
    private static final int[] ALONE = {1000};
    private static final int[] WORDS = {5, 900, 5, 900, 5, 900};
    private static final int[] RUNS = {3, 3, 3, 800, 800, 800, 800};
    private static final int[] SMALL = {7, 7, 7, 7, 9, 7, 9, 9};
    private static final int[] STEPS = {10, 11, 12, 13, 14, 13};
    private static final String[] CODES = {
        "000 0001 1111101000",
        "001 0110 0010 0000000101 1110000100 0 1 0 1 0 1",
        "010 0111 0000000011 0011 1100100000 0100",
        "011 1000 0000000111 0010 00 00 00 00 10 00 10 10",
        "100 0110 0000001010 0010 01 01 01 01 11",
    };

    /** Made anew for each promise: an object is good for 512 calls. */
    private static CodedColumn x;

    private static void makeColumn() {
        x = Build.pages(ALONE, WORDS, RUNS, SMALL, STEPS);
    }

    public static void main(String[] args) {
        about();
        at();
        page();
        bit();
        size();
        ties();
        scan();
        sum();
        expect.end();
    }

    private static void about() {
        makeColumn();
        int[] want = {28, 5, 8, 17 + 37 + 35 + 37 + 31, 280, 0, 3, 1000, 12};
        for (int what = 0; what < want.length; what++) {
            int asked = what;
            expect.is(want[what], "about(" + what + ")", () -> x.about(asked));
        }
        expect.fails(ARGUMENT, "about(-1)", () -> x.about(-1));
        expect.fails(ARGUMENT, "about(9)", () -> x.about(9));
        x.pin(1, 0);
        x.pin(4, 4);
        expect.is(2, "about(5) with two pins", () -> x.about(5));
        expect.is(17 + 67 + 35 + 37 + 31, "about(3) with two pins", () -> x.about(3));
        x.undo();
        x.undo();
        expect.is(0, "about(5) without pins again", () -> x.about(5));
        x.pin(0, 0);
        expect.is(1, "about(5) with a pin of the first page", () -> x.about(5));
        CodedColumn ends = Build.pages(Build.page(8, 9, 5), Build.page(7, 1023, 0, 6));
        expect.is(0, "about(6) within a page", () -> ends.about(6));
        expect.is(1023, "about(7) within a page", () -> ends.about(7));
        CodedColumn turned = Build.pages(Build.page(0), Build.page(1023, 1023));
        expect.is(0, "about(6) of the first value", () -> turned.about(6));
        expect.is(1023, "about(7) of the last value", () -> turned.about(7));
        expect.is(2, "about(8) with a value twice", () -> turned.about(8));
    }

    private static void at() {
        makeColumn();
        int[][] all = {ALONE, WORDS, RUNS, SMALL, STEPS};
        int i = 0;
        for (int[] values : all) {
            for (int v : values) {
                int asked = i++;
                expect.is(v, "at(" + asked + ")", () -> x.at(asked));
            }
        }
        for (int far : new int[] {-1, 28, 119, 120, Integer.MIN_VALUE, Integer.MAX_VALUE}) {
            expect.fails(INDEX, "at(" + far + ")", () -> x.at(far));
        }
    }

    private static void page() {
        makeColumn();
        int[][] want = {
            {0, 1, 0, 17, 1000, 1000, 1, 1, NONE},
            {1, 6, 1, 37, 5, 900, 2, 6, NONE},
            {7, 7, 2, 35, 3, 800, 2, 2, NONE},
            {14, 8, 3, 37, 7, 9, 2, 4, NONE},
            {22, 6, 4, 31, 10, 14, 5, 6, NONE},
        };
        for (int p = 0; p < want.length; p++) {
            for (int what = 0; what <= 8; what++) {
                int asked = p;
                int number = what;
                expect.is(want[p][what], "page(" + p + ", " + what + ")", () -> x.page(asked, number));
            }
        }
        expect.fails(ARGUMENT, "page(0, -1)", () -> x.page(0, -1));
        expect.fails(ARGUMENT, "page(4, 9)", () -> x.page(4, 9));
        for (int far : FAR) {
            expect.fails(INDEX, "page(" + far + ", 0)", () -> x.page(far, 0));
            expect.fails(INDEX, "page(" + far + ", 9)", () -> x.page(far, 9));
        }
        x.pin(3, 2);
        expect.is(2, "page(3, 2) pinned", () -> x.page(3, 2));
        expect.is(63, "page(3, 3) pinned", () -> x.page(3, 3));
        expect.is(2, "page(3, 8) pinned", () -> x.page(3, 8));
        x.undo();
    }

    private static void bits(CodedColumn column, int p, String code) {
        String bits = Build.withoutGaps(code);
        for (int i = 0; i < bits.length(); i++) {
            int asked = i;
            expect.is(bits.charAt(i) - '0', "bit(" + p + ", " + i + ") of " + code, () -> column.bit(p, asked));
        }
        expect.is(NONE, "the bit behind " + code, () -> column.bit(p, bits.length()));
        expect.is(NONE, "a bit far behind " + code, () -> column.bit(p, Integer.MAX_VALUE));
        expect.fails(ARGUMENT, "the bit ahead of " + code, () -> column.bit(p, -1));
    }

    private static void bit() {
        makeColumn();
        for (int p = 0; p < CODES.length; p++) {
            bits(x, p, CODES[p]);
        }
        for (int far : FAR) {
            expect.fails(INDEX, "bit(" + far + ", 0)", () -> x.bit(far, 0));
            expect.fails(INDEX, "bit(" + far + ", -1)", () -> x.bit(far, -1));
        }
        CodedColumn two = Build.pages(Build.page(1023, 0));
        String[] codes = {
            "000 0010 1111111111 0000000000",
            "001 0010 0010 1111111111 0000000000 0 1",
            "010 0010 1111111111 0001 0000000000 0001",
            "011 0010 0000000000 1010 1111111111 0000000000",
            "100 0010 1111111111 1011 10000000001",
        };
        for (int coding = 0; coding < codes.length; coding++) {
            two.pin(0, coding);
            bits(two, 0, codes[coding]);
        }
        CodedColumn one = Build.pages(Build.page(512));
        one.pin(0, 4);
        bits(one, 0, "100 0001 1000000000 0001");
        one.pin(0, 3);
        bits(one, 0, "011 0001 1000000000 0000");
        one.pin(0, 1);
        bits(one, 0, "001 0001 0001 1000000000");
    }

    private static void sizes(CodedColumn column, int p, int... want) {
        for (int coding = 0; coding < want.length; coding++) {
            int asked = coding;
            expect.is(want[coding], "size(" + p + ", " + coding + ")", () -> column.size(p, asked));
        }
    }

    private static void size() {
        makeColumn();
        sizes(x, 0, 17, 21, 21, 21, 21);
        sizes(x, 1, 67, 37, 91, 81, 76);
        sizes(x, 2, 77, 38, 35, 91, 87);
        sizes(x, 3, 87, 39, 63, 37, 42);
        sizes(x, 4, 67, 79, 91, 39, 31);
        // Twelve values that are all different: the largest codes with words and with runs.
        CodedColumn most = Build.pages(Build.page(0, 1023, 1, 1022, 2, 1021, 3, 1020, 4, 1019, 5, 1018));
        sizes(most, 0, 127, 179, 175, 141, 142);
        // Steps of -2 to 1 need two bits, one of 2 or -3 needs three.
        sizes(Build.pages(Build.page(5, 3, 4, 4)), 0, 47, 7 + 4 + 30 + 8, 7 + 42, 21 + 8, 21 + 6);
        sizes(Build.pages(Build.page(5, 7)), 0, 27, 33, 35, 25, 24);
        sizes(Build.pages(Build.page(5, 2)), 0, 27, 33, 35, 25, 24);
        sizes(Build.pages(Build.page(5, 4, 4)), 0, 37, 34, 35, 24, 23);
        expect.fails(ARGUMENT, "size(0, -1)", () -> x.size(0, -1));
        expect.fails(ARGUMENT, "size(0, 5)", () -> x.size(0, 5));
        expect.fails(ARGUMENT, "size(0, NONE)", () -> x.size(0, NONE));
        for (int far : FAR) {
            expect.fails(INDEX, "size(" + far + ", 0)", () -> x.size(far, 0));
            expect.fails(INDEX, "size(" + far + ", 5)", () -> x.size(far, 5));
        }
    }

    /** Of several codings with the smallest size, a page has the lowest one. */
    private static void ties() {
        CodedColumn alike = Build.pages(Build.page(4, 4));
        sizes(alike, 0, 27, 21, 21, 21, 22);
        expect.is(1, "the coding of two values that are alike", () -> alike.page(0, 2));
        CodedColumn same = Build.pages(Build.page(5, 5, 6, 5, 6));
        sizes(same, 0, 57, 36, 63, 26, 29);
        CodedColumn even = Build.pages(Build.page(1, 2, 3));
        sizes(even, 0, 37, 7 + 4 + 30 + 6, 49, 27, 25);
        CodedColumn small = Build.pages(Build.page(1, 2));
        sizes(small, 0, 27, 33, 35, 23, 23);
        expect.is(3, "the coding of 1 and 2", () -> small.page(0, 2));
    }

    private static void cost(int v, int want, int times) {
        expect.is(want, "scan(" + v + ", false)", () -> x.scan(v, false));
        expect.is(times, "scan(" + v + ", true)", () -> x.scan(v, true));
    }

    private static void scan() {
        makeColumn();
        // Five pages cost 1 each; what is behind that is what each page costs that may have the value.
        cost(0, 5, 0);
        cost(1001, 5, 0);
        cost(1000, 5 + 1, 1);
        cost(5, 5 + (1 + 6) + 2, 3);
        cost(900, 5 + (2 + 6), 3);
        cost(899, 5 + 2, 0);
        cost(3, 5 + 2, 3);
        cost(800, 5 + 2 + 2, 4);
        cost(7, 5 + 2 + 2 + 8, 5);
        cost(8, 5 + 2 + 2 + 8, 0);
        cost(9, 5 + 2 + 2 + 8, 3);
        cost(10, 5 + 2 + 2 + 6, 1);
        cost(13, 5 + 2 + 2 + 6, 2);
        cost(15, 5 + 2 + 2, 0);
        x.pin(3, 2);
        x.pin(4, 1);
        cost(8, 5 + 2 + 2 + 4, 0);
        cost(13, 5 + 2 + 2 + (4 + 6), 2);
        x.undo();
        x.undo();
        expect.fails(ARGUMENT, "scan(-1, true)", () -> x.scan(-1, true));
        expect.fails(ARGUMENT, "scan(1024, false)", () -> x.scan(1024, false));
        expect.is(0, "scan(1023, true)", () -> x.scan(1023, true));
    }

    private static void sum() {
        makeColumn();
        expect.is(1000, "sum(0, 0)", () -> x.sum(0, 0));
        expect.is(1000 + 3 * 905 + 9 + 3200, "sum(0, 13)", () -> x.sum(0, 13));
        expect.is(900 + 5, "sum(2, 3)", () -> x.sum(2, 3));
        expect.is(13, "sum(27, 27)", () -> x.sum(27, 27));
        expect.is(0, "sum(3, 2)", () -> x.sum(3, 2));
        expect.is(0, "sum(27, 0)", () -> x.sum(27, 0));
        expect.fails(INDEX, "sum(-1, 0)", () -> x.sum(-1, 0));
        expect.fails(INDEX, "sum(0, 28)", () -> x.sum(0, 28));
        expect.fails(INDEX, "sum(28, 0)", () -> x.sum(28, 0));
        expect.fails(INDEX, "sum(0, -1)", () -> x.sum(0, -1));
        expect.fails(INDEX, "sum of nothing", () -> new CodedColumn().sum(0, 0));
    }
}
