/**
 * Tells all that can be seen of a column: what it holds, its text, what it remembers and what its
 * slots keep. Telling it all uses the column up, so that a column is told once, at the end.
 */
final class Trace {
    private static final int NONE = CodedColumn.NONE;
    private static final int MOST_REMEMBERED = 14;
    private static final String NO_STATE = "IllegalStateException";

    private Trace() {
    }

    /** The state, but for what is remembered. It changes nothing. */
    static String state(CodedColumn x) {
        StringBuilder told = new StringBuilder("limit ").append(x.about(2));
        int i = 0;
        for (int p = 0; p < x.about(1); p++) {
            told.append(" [");
            for (int k = x.page(p, 1); k > 0; k--) {
                told.append(x.at(i++)).append(k > 1 ? " " : "]");
            }
            told.append(x.page(p, 8) == NONE ? "" : " pinned to " + x.page(p, 8));
        }
        told.append(i == x.about(0) ? "" : " and more values");
        return told.toString();
    }

    /** All of it. */
    static String all(CodedColumn x) {
        StringBuilder told = new StringBuilder(state(x));
        told.append("; text wrong at ").append(x.errorPosition());
        tellRemembered(x, told);
        tellSlots(x, told);
        tellText(x, told);
        return told.toString();
    }

    /** Takes back all that is remembered; each state is told by its numbers alone, the oldest one whole. */
    private static void tellRemembered(CodedColumn x, StringBuilder told) {
        told.append("; remembered");
        String left = Expect.outcome(x::undo);
        for (int times = 0; times <= MOST_REMEMBERED && !left.equals(NO_STATE); times++) {
            told.append(' ').append(left).append(':').append(x.about(0)).append('/').append(x.about(1));
            told.append('/').append(x.about(2)).append('/').append(x.about(3)).append('/').append(x.about(5));
            left = Expect.outcome(x::undo);
        }
        told.append(", the oldest ").append(state(x));
    }

    private static void tellSlots(CodedColumn x, StringBuilder told) {
        for (int slot = 0; slot < 2; slot++) {
            int asked = slot;
            told.append("; slot ").append(slot).append(": ");
            boolean empty = Expect.outcome(() -> x.restore(asked)).equals(NO_STATE);
            told.append(empty ? "nothing" : state(x));
        }
    }

    /** What the text says shows in the page that it gives; that needs a column with room for it. */
    private static void tellText(CodedColumn x, StringBuilder told) {
        while (x.about(1) > 8) {
            x.remove(0);
        }
        told.append("; text taken ").append(Expect.outcome(x::take));
        told.append(' ').append(state(x)).append(", of length ").append(x.clearText());
    }
}
