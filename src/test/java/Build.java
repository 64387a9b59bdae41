/** Makes the columns that the tests begin with. */
final class Build {
    private Build() {
    }

    /** A column with this text; blanks only part it for the eye. */
    static CodedColumn text(String text) {
        CodedColumn x = new CodedColumn();
        write(x, text);
        return x;
    }

    static void write(CodedColumn x, String text) {
        x.clearText();
        for (char c : withoutGaps(text).toCharArray()) {
            x.append(c);
        }
    }

    static String withoutGaps(String text) {
        return text.replace(" ", "");
    }

    /** A column with these pages, none of them pinned, and the limit 8. */
    static CodedColumn pages(int[]... pages) {
        CodedColumn x = new CodedColumn();
        for (int[] values : pages) {
            x.setLimit(1);
            x.add(values[0]);
            x.setLimit(12);
            for (int i = 1; i < values.length; i++) {
                x.add(values[i]);
            }
        }
        x.setLimit(8);
        return x;
    }

    static int[] page(int... values) {
        return values;
    }
}
