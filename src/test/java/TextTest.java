/** Promises 1 to 4: a new object, append, clearText, errorPosition. */
public final class TextTest {
    private static final Class<IllegalArgumentException> ARGUMENT = IllegalArgumentException.class;
    private static final Class<IllegalStateException> STATE = IllegalStateException.class;

    private static final Expect expect = new Expect();

    public static void main(String[] args) {
        newObject();
        append();
        clearText();
        head();
        plain();
        words();
        runs();
        small();
        steps();
        expect.end();
    }

    private static void newObject() {
        CodedColumn x = new CodedColumn();
        int[] about = {0, 0, 8, 0, 0, 0, CodedColumn.NONE, CodedColumn.NONE, 0};
        for (int what = 0; what < about.length; what++) {
            int asked = what;
            expect.is(about[what], "new: about(" + what + ")", () -> x.about(asked));
        }
        expect.is(0, "new: clearText()", x::clearText);
        expect.is(0, "new: errorPosition()", x::errorPosition);
        expect.is(0, "new: smallest()", x::smallest);
        expect.is(0, "new: scan(0, false)", () -> x.scan(0, false));
        expect.fails(STATE, "new: undo()", x::undo);
        expect.fails(STATE, "new: restore(0)", () -> x.restore(0));
        expect.fails(IndexOutOfBoundsException.class, "new: at(0)", () -> x.at(0));
        expect.fails(IndexOutOfBoundsException.class, "new: page(0, 0)", () -> x.page(0, 0));
    }

    private static void append() {
        CodedColumn x = new CodedColumn();
        expect.fails(ARGUMENT, "append(-1)", () -> x.append(-1));
        expect.fails(ARGUMENT, "append(256)", () -> x.append(256));
        expect.is(1, "append(0)", () -> x.append(0));
        expect.is(2, "append(255)", () -> x.append(255));
        for (int length = 3; length <= 160; length++) {
            expect.is(length, "append('0')", () -> x.append('0'));
        }
        expect.fails(STATE, "append('0') to 160 characters", () -> x.append('0'));
        expect.fails(ARGUMENT, "append(256) to 160 characters", () -> x.append(256));
        expect.is(160, "clearText() of 160 characters", x::clearText);
    }

    private static void clearText() {
        CodedColumn x = Build.text("0000001");
        expect.is(7, "errorPosition() ahead of clearText()", x::errorPosition);
        expect.is(7, "clearText()", x::clearText);
        expect.is(0, "clearText() again", x::clearText);
        expect.is(0, "errorPosition() behind clearText()", x::errorPosition);
        expect.is(1, "append('1') behind clearText()", () -> x.append('1'));
        expect.fails(STATE, "undo(): append and clearText are no actions", x::undo);
    }

    private static void position(int want, String text) {
        CodedColumn x = Build.text(text);
        expect.is(want, "errorPosition() of '" + text + "'", x::errorPosition);
    }

    private static void page(String text) {
        position(CodedColumn.NONE, text);
        position(Build.withoutGaps(text).length(), text + "0");
        position(Build.withoutGaps(text).length(), text + "x");
        position(Build.withoutGaps(text).length() - 1, text.substring(0, text.length() - 1));
    }

    private static void head() {
        position(0, "2");
        position(0, "/");
        position(1, "0");
        position(1, "1");
        position(1, "11");
        position(2, "101");
        position(2, "10x");
        position(3, "100");
        position(6, "000 0000");
        position(5, "000 111");
        position(6, "000 1101");
        position(7, "000 1100");
    }

    private static void plain() {
        page("000 0001 1111111111");
        page("000 0010 0000000000 0000000001");
        position(10, "000 0001 111 21");
        position(17, "000 0010 0000000000");
        String code = "000 1100";
        for (int i = 0; i < 12; i++) {
            position(7 + 10 * i, code);
            code += " 1010101010";
        }
        page(code);
    }

    private static void words() {
        page("001 0001 0001 0000000111");
        page("001 1100 0001 0000000111");
        page("001 0010 0010 0000000111 0000000111 0 0");
        page("001 0010 0010 0000000111 0000000110 1 1");
        page("001 0011 0011 0000000001 0000000010 0000000011 10 01 10");
        position(10, "001 0010 0000");
        position(10, "001 0010 0011");
        position(8, "001 0010 01");
        position(7, "001 0010 1");
        position(42, "001 0011 0011 0000000001 0000000010 0000000011 11");
        position(42, "001 0011 0011 0000000001 0000000010 0000000011 1");
        String twelve = "001 1100 1100";
        for (int i = 0; i < 12; i++) {
            twelve += " 0000000001";
        }
        // 131 characters, and a number of four bits for each of 12 values: seven of them fit into 160.
        position(132, twelve + " 111");
        position(159, twelve + " 1011 1011 1011 1011 1011 1011 1011");
        position(160, twelve + " 1011 1011 1011 1011 1011 1011 1011 1");
    }

    private static void runs() {
        page("010 0001 0000000111 0001");
        page("010 1100 0000000111 1100");
        page("010 0011 0000000111 0010 0000000111 0001");
        position(20, "010 0011 0000000111 0000");
        position(18, "010 0011 0000000111 0100");
        position(33, "010 0011 0000000111 0010 0000000111 0010");
        position(21, "010 0011 0000000111 0010");
        position(20, "010 1100 0000000111 1101");
    }

    private static void small() {
        page("011 0001 0000000111 0000");
        page("011 0010 0000000111 0001 0 1");
        page("011 0010 0000000111 1010 1111111000 0000000000");
        page("011 0010 1111111100 0010 11 00");
        page("011 0010 1111111111 1010 0000000000 0000000000");
        position(20, "011 0010 0000000111 1011");
        position(18, "011 0010 0000000111 11");
        position(21, "011 0010 1111111110 0010 10");
        position(23, "011 0010 1111111110 0010 01 1");
        position(22, "011 0010 1111111101 0010 11");
        position(30, "011 0010 0000000111 1010 1111111001");
        position(30, "011 0010 1111111111 1010 0000000001");
    }

    private static void steps() {
        page("100 0001 0000000111 0001");
        page("100 0010 0000000111 0001 1");
        page("100 0011 0000000001 0001 1 0");
        page("100 0010 0000000011 0011 101");
        page("100 0010 0000000100 0011 100");
        page("100 0010 1111111111 0010 10");
        page("100 0010 1111111100 0011 011");
        page("100 0010 0000000111 1011 11111111001");
        page("100 0010 0000000000 1011 01111111111");
        page("100 0010 1111111111 1011 10000000001");
        position(20, "100 0001 0000000111 0000");
        position(18, "100 0001 0000000111 11");
        position(21, "100 0010 0000000000 0001 1");
        position(22, "100 0011 0000000001 0001 1 1");
        position(23, "100 0010 0000000011 0011 100");
        position(22, "100 0010 0000000001 0011 10");
        position(22, "100 0010 1111111111 0010 01");
        position(23, "100 0010 1111111101 0011 011");
        position(31, "100 0010 1111111111 1011 10000000000");
        position(31, "100 0010 0000000001 1011 01111111111");
    }
}
