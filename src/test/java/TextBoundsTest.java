/**
 * "## Terms", the text: each number of a code at its bounds. Behind a beginning that is allowed, every
 * number that the width can write is tried, and the error position held against the document's words:
 * "a digit is not allowed if no number that is allowed begins with it and those before it".
 */
public final class TextBoundsTest {
    private static final int NONE = CodedColumn.NONE;
    private static final int TEXT_ROOM = 160;

    private static final Expect expect = new Expect();

    public static void main(String[] args) {
        codingIs0To4();
        countIs1To12();
        wordCountIs1ToCount();
        wordNumberIsLessThanWordCount();
        wordsNeedNotBeDifferentOrUsed();
        runLengthIs1ToWhatIsLacking();
        neighboringRunsMayBeAlike();
        smallWidthIs0To10();
        noSmallValueAbove1023();
        stepWidthIs1To11();
        everyStepIsFrom0To1023();
        everyPlainValueIsAllowed();
        nothingBehindTheLastValue();
        tooSoon();
        otherCharacters();
        atMost160Characters();
        expect.end();
    }

    private static String binary(int number, int width) {
        StringBuilder bits = new StringBuilder();
        for (int place = width - 1; place >= 0; place--) {
            bits.append(number >> place & 1);
        }
        return bits.toString();
    }

    private static void position(int want, String text) {
        CodedColumn x = Build.text(text);
        expect.is(want, "errorPosition() of '" + text + "'", x::errorPosition);
    }

    /** How many digits of a number are allowed, if all numbers from low to high are. */
    private static int allowedDigits(int number, int width, int low, int high) {
        for (int digits = 1; digits <= width; digits++) {
            int left = width - digits;
            int least = number >> left << left;
            int greatest = least + (1 << left) - 1;
            if (greatest < low || least > high) {
                return digits - 1;
            }
        }
        return width;
    }

    /** Tries every number behind a beginning; those from low to high are allowed there. */
    private static void numbers(String begin, int width, int low, int high) {
        int start = Build.withoutGaps(begin).length();
        for (int number = 0; number < 1 << width; number++) {
            int digits = allowedDigits(number, width, low, high);
            String text = begin + " " + binary(number, width);
            if (start + width > TEXT_ROOM) {
                continue;
            }
            CodedColumn x = Build.text(text);
            if (digits < width) {
                expect.is(start + digits, "errorPosition() of '" + text + "'", x::errorPosition);
            } else {
                expect.is(1, "the number at the end of '" + text + "' is allowed",
                    () -> x.errorPosition() == NONE || x.errorPosition() >= start + width ? 1 : 0);
            }
        }
    }

    /** "the coding is 0 to 4" */
    private static void codingIs0To4() {
        numbers("", 3, 0, 4);
        position(1, "111");
        position(1, "110");
        position(2, "101");
        position(3, "100");
    }

    /** "n is 1 to 12" */
    private static void countIs1To12() {
        for (int coding = 0; coding <= 4; coding++) {
            String begin = binary(coding, 3);
            numbers(begin, 4, 1, 12);
            position(6, begin + "0000");
            position(7, begin + "0001");
            position(7, begin + "1100");
            position(6, begin + "1101");
            position(5, begin + "1110");
        }
    }

    /** "with words d is 1 to n" */
    private static void wordCountIs1ToCount() {
        for (int n = 1; n <= 12; n++) {
            numbers("001 " + binary(n, 4), 4, 1, n);
        }
        position(10, "001 0001 0000");
        position(9, "001 0001 0010");
        position(10, "001 1100 1101");
        position(11, "001 1100 1100");
    }

    private static String words(int n, int d) {
        StringBuilder begin = new StringBuilder("001 " + binary(n, 4) + " " + binary(d, 4));
        for (int i = 0; i < d; i++) {
            begin.append(' ').append(binary(85 * i, 10));
        }
        return begin.toString();
    }

    /** "the number of a word is less than d" */
    private static void wordNumberIsLessThanWordCount() {
        int[] widths = {0, 1, 2, 2, 3, 3, 3, 3, 4, 4, 4, 4};
        for (int d = 2; d <= 12; d++) {
            numbers(words(12, d), widths[d - 1], 0, d - 1);
            numbers(words(12, d) + " " + binary(d - 1, widths[d - 1]), widths[d - 1], 0, d - 1);
        }
        // One word: nothing is written for its number.
        position(NONE, words(12, 1));
        position(NONE, words(1, 1));
    }

    /** "words need not be different or used" */
    private static void wordsNeedNotBeDifferentOrUsed() {
        position(NONE, "001 0011 0011 0000000111 0000000111 0000000111 00 01 10");
        position(NONE, "001 0011 0011 0000000111 0000001000 0000001001 00 00 00");
        position(NONE, "001 0011 0011 0000000111 0000001000 0000001001 10 10 10");
    }

    /** "with runs each length is 1 to the number of values that are still lacking" */
    private static void runLengthIs1ToWhatIsLacking() {
        for (int lacking = 1; lacking <= 12; lacking++) {
            numbers("010 " + binary(lacking, 4) + " 1111111111", 4, 1, lacking);
            if (lacking < 12) {
                String first = "010 1100 0000000000 " + binary(12 - lacking, 4);
                numbers(first + " 0000000001", 4, 1, lacking);
            }
        }
        // Eleven runs take 161 characters: the last one of them lacks.
        position(160, "010 1011" + " 0000000101 0001".repeat(10) + " 0000000101 000");
        position(NONE, "010 1010" + " 0000000101 0001".repeat(10));
    }

    /** "(neighboring runs may be alike)" */
    private static void neighboringRunsMayBeAlike() {
        position(NONE, "010 0010 0000000101 0001 0000000101 0001");
        position(NONE, "010 1100 0000000101 0110 0000000101 0110");
        position(NONE, "010 0011 1111111111 0001 1111111111 0010");
    }

    /** "with small numbers w is 0 to 10" */
    private static void smallWidthIs0To10() {
        for (int n = 1; n <= 12; n += 11) {
            numbers("011 " + binary(n, 4) + " 0000000000", 4, 0, 10);
            numbers("011 " + binary(n, 4) + " 1111111111", 4, 0, 10);
        }
        position(NONE, "011 0001 1111111111 0000");
        position(NONE, "011 1100 1111111111 0000");
    }

    /** "and no value may be greater than 1023" */
    private static void noSmallValueAbove1023() {
        for (int w = 1; w <= 10; w++) {
            int most = (1 << w) - 1;
            int[] rooms = {0, 1, most / 2, most / 2 + 1, most - 1, most, Math.min(1023, most + 1), 1023};
            for (int room : rooms) {
                String begin = "011 0011 " + binary(1023 - room, 10) + " " + binary(w, 4);
                numbers(begin, w, 0, room);
                // Each value counts from the smallest one, not from the one ahead of it.
                numbers(begin + " " + binary(Math.min(room, most), w), w, 0, room);
            }
        }
    }

    /** "with steps w is 1 to 11" */
    private static void stepWidthIs1To11() {
        for (int n = 1; n <= 12; n += 11) {
            numbers("100 " + binary(n, 4) + " 0000000000", 4, 1, 11);
            numbers("100 " + binary(n, 4) + " 1111111111", 4, 1, 11);
        }
        position(NONE, "100 0001 0000000000 0001");
        position(NONE, "100 0001 0000000000 1011");
        position(20, "100 0001 0000000000 0000");
        position(18, "100 0001 0000000000 1100");
    }

    /** "and each value must be 0 to 1023": the steps up are the numbers that begin with 0, those down begin with 1. */
    private static void everyStepIsFrom0To1023() {
        for (int w = 1; w <= 11; w++) {
            int half = 1 << (w - 1);
            int[] values = {0, 1, half - 1, half, half + 1, 1023 - half, 1024 - half, 1025 - half, 1022, 1023};
            for (int value : values) {
                if (value < 0 || value > 1023) {
                    continue;
                }
                steps("100 0011 " + binary(value, 10) + " " + binary(w, 4), w, value);
                if (value > 0) {
                    // One step down first: what counts is the value ahead, not the first one.
                    steps("100 0011 " + binary(value, 10) + " " + binary(w, 4) + " " + "1".repeat(w), w, value - 1);
                }
            }
        }
    }

    /** Tries every step behind a beginning that has come to this value. */
    private static void steps(String begin, int w, int value) {
        int start = Build.withoutGaps(begin).length();
        int half = 1 << (w - 1);
        for (int number = 0; number < 1 << w; number++) {
            int digits = w;
            if (number < half) {
                digits = allowedDigits(number, w, 0, Math.min(half - 1, 1023 - value));
            } else if (value == 0) {
                digits = 0;
            } else {
                digits = Math.max(1, allowedDigits(number, w, 2 * half - Math.min(half, value), 2 * half - 1));
            }
            String text = begin + " " + binary(number, w);
            CodedColumn x = Build.text(text);
            int want = start + digits;
            expect.is(1, "errorPosition() of '" + text + "' is " + want, () -> x.errorPosition() == want
                || x.errorPosition() == NONE && want == Build.withoutGaps(text).length() ? 1 : 0);
        }
    }

    /** A value of ten bits is 0 to 1023 whatever its digits are. */
    private static void everyPlainValueIsAllowed() {
        for (int v = 0; v <= 1023; v++) {
            CodedColumn x = Build.text("000 0001 " + binary(v, 10));
            int value = v;
            expect.is(0, "take() of the plain value " + v, x::take);
            expect.is(value, "at(0) behind that", () -> x.at(0));
        }
    }

    private static final String[] PAGES = {
        "000 0001 1111101000",
        "000 1100" + " 1111111111".repeat(12),
        "001 0110 0010 0000000101 1110000100 0 1 0 1 0 1",
        "001 0001 0001 0000000000",
        "001 1100 1010" + " 0000000111".repeat(10) + " 1001".repeat(12),
        "010 0111 0000000011 0011 1100100000 0100",
        "010 0001 0000000000 0001",
        "011 1000 0000000111 0010 00 00 00 00 10 00 10 10",
        "011 1100 0000000111 1010" + " 1111111000".repeat(12),
        "011 0001 0000000000 0000",
        "100 0110 0000001010 0010 01 01 01 01 11",
        "100 1100 0000000000 1011" + " 00000000001".repeat(11),
        "100 0001 1111111111 1011",
    };

    /** "Behind the last value nothing more is allowed." */
    private static void nothingBehindTheLastValue() {
        for (String page : PAGES) {
            int length = Build.withoutGaps(page).length();
            position(NONE, page);
            for (String more : new String[] {"0", "1", "x", "\0", "\u00ff"}) {
                position(length, page + more);
            }
        }
        position(17, "000 0001 1111101000 000 0001 1111101000");
    }

    /** "if the text ends too soon, it is the length of the text" */
    private static void tooSoon() {
        position(0, "");
        for (String page : PAGES) {
            String code = Build.withoutGaps(page);
            CodedColumn x = new CodedColumn();
            for (int length = 0; length < code.length(); length++) {
                int due = length;
                expect.is(due, "errorPosition() of " + length + " characters of " + page, x::errorPosition);
                x.append(code.charAt(length));
            }
            expect.is(NONE, "errorPosition() of " + page, x::errorPosition);
        }
    }

    /** "A page is told as a row of the digits 0 and 1": no other character is allowed, at any place. */
    private static void otherCharacters() {
        for (int c = 0; c <= 255; c++) {
            CodedColumn x = new CodedColumn();
            x.append(c);
            int want = c == '0' || c == '1' ? 1 : 0;
            expect.is(want, "errorPosition() of the character " + c, x::errorPosition);
        }
        for (String page : PAGES) {
            String code = Build.withoutGaps(page);
            for (int at = 0; at < code.length(); at += 5) {
                for (String other : new String[] {"2", "/", "\0", "\u0001", "\u00b1", "\u00ff"}) {
                    position(at, code.substring(0, at) + other + code.substring(at + 1));
                }
            }
        }
    }

    /** "a text buffer of at most 160 characters": a longer code cannot be told, its text ends too soon. */
    private static void atMost160Characters() {
        String longest = Build.withoutGaps(PAGES[4]);
        expect.is(159, "the length of a page with ten words", longest::length);
        position(NONE, longest);
        position(159, longest + "0");
        String eleven = Build.withoutGaps(words(12, 11)) + "0000".repeat(9) + "000";
        expect.is(160, "the length of what fits of a page with eleven words", eleven::length);
        position(160, eleven);
        String twelve = Build.withoutGaps(words(12, 12)) + "1011".repeat(7) + "1";
        expect.is(160, "the length of what fits of a page with twelve words", twelve::length);
        position(160, twelve);
        CodedColumn x = Build.text(twelve);
        expect.fails(IllegalStateException.class, "append('0') to 160 characters", () -> x.append('0'));
        expect.fails(IllegalStateException.class, "take() of 160 characters", x::take);
        expect.is(160, "clearText() of 160 characters", x::clearText);
    }
}
