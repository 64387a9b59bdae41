/**
 * "## Terms", actions and undo: what is an action, what is remembered before it and how much of it, and
 * what does not belong to the state. Each sentence has a test of its own under its words.
 */
public final class UndoTest {
    private static final int NONE = CodedColumn.NONE;
    private static final int MOST = 14;
    private static final Class<IllegalStateException> STATE = IllegalStateException.class;
    private static final String PAGE = "000 0001 0000000101";

    private static final Expect expect = new Expect();

    private interface Asked {
        long of(CodedColumn x);
    }

    public static void main(String[] args) {
        eachActionIsRemembered();
        nothingBecomesDifferent();
        undoIsNone();
        atMost14();
        oldestIsForgotten();
        roundAndRound();
        textIsNotOfTheState();
        textLeavesAllElse();
        slotsAreNotOfTheState();
        restoreIsNotAnAction();
        restoreForgetsAll();
        saveRemembersNothing();
        expect.end();
    }

    private static CodedColumn start() {
        CodedColumn x = Build.pages(new int[] {7, 7, 7}, new int[] {500, 20}, new int[] {9});
        x.pin(1, 3);
        x.setLimit(5);
        Build.write(x, PAGE);
        return x;
    }

    /** The same column with nothing remembered. */
    private static CodedColumn fresh() {
        CodedColumn x = start();
        x.save(0);
        x.restore(0);
        return x;
    }

    private static void action(String call, String want, Asked asked) {
        String before = "limit 5 [7 7 7] [500 20] pinned to 3 [9]";
        CodedColumn x = fresh();
        expect.tell("the column ahead of " + call, before, Trace.state(x));
        asked.of(x);
        expect.tell("the column behind " + call, want, Trace.state(x));
        expect.is(0, "undo() behind " + call, x::undo);
        expect.tell("the column behind undo() of " + call, before, Trace.state(x));
        expect.fails(STATE, "one more undo() behind " + call, x::undo);
        // With 14 remembered states, it takes the place of the oldest one.
        CodedColumn full = start();
        asked.of(full);
        expect.is(MOST - 1, "undo() of " + call + " behind many actions", full::undo);
        expect.tell("the column behind that", before, Trace.state(full));
    }

    /** "Each call of one of them that does not throw an exception is an action": all nine, and what is remembered. */
    private static void eachActionIsRemembered() {
        action("add(6)", "limit 5 [7 7 7] [500 20] pinned to 3 [9 6]", x -> x.add(6));
        action("put(3, 1)", "limit 5 [7 7 7] [1 20] pinned to 3 [9]", x -> x.put(3, 1));
        action("remove(0)", "limit 5 [7 7] [500 20] pinned to 3 [9]", x -> x.remove(0));
        action("remove(5)", "limit 5 [7 7 7] [500 20] pinned to 3", x -> x.remove(5));
        action("cut(1, 1)", "limit 5 [7 7 7] [500] pinned to 3 [20] pinned to 3 [9]", x -> x.cut(1, 1));
        action("merge(0)", "limit 5 [7 7 7 500 20] [9]", x -> x.merge(0));
        action("merge(1)", "limit 5 [7 7 7] [500 20 9]", x -> x.merge(1));
        action("compact()", "limit 5 [7 7 7 500 20 9]", CodedColumn::compact);
        action("pin(0, 4)", "limit 5 [7 7 7] pinned to 4 [500 20] pinned to 3 [9]", x -> x.pin(0, 4));
        action("pin(1, NONE)", "limit 5 [7 7 7] [500 20] [9]", x -> x.pin(1, NONE));
        action("setLimit(12)", "limit 12 [7 7 7] [500 20] pinned to 3 [9]", x -> x.setLimit(12));
        action("take()", "limit 5 [7 7 7] [500 20] pinned to 3 [9] [5]", CodedColumn::take);
    }

    /** "also if nothing becomes different" */
    private static void nothingBecomesDifferent() {
        String same = "limit 5 [7 7 7] [500 20] pinned to 3 [9]";
        action("put(0, 7)", same, x -> x.put(0, 7));
        action("pin(0, NONE)", same, x -> x.pin(0, NONE));
        action("pin(1, 3)", same, x -> x.pin(1, 3));
        action("setLimit(5)", same, x -> x.setLimit(5));
        CodedColumn x = Build.pages(new int[] {0, 1023, 1, 1022, 2, 1021});
        x.save(0);
        x.restore(0);
        expect.is(0, "compact() of one page", x::compact);
        expect.is(0, "undo() of that", x::undo);
        CodedColumn empty = new CodedColumn();
        expect.is(0, "compact() of nothing", empty::compact);
        expect.is(8, "setLimit(8)", () -> empty.setLimit(8));
        expect.is(1, "undo() of setLimit(8)", empty::undo);
        expect.is(0, "undo() of compact()", empty::undo);
        expect.fails(STATE, "undo() of nothing", empty::undo);
    }

    /** "(undo is none)": an undo is not taken back by the next one. */
    private static void undoIsNone() {
        CodedColumn x = new CodedColumn();
        x.add(1);
        x.add(2);
        x.add(3);
        expect.is(2, "undo()", x::undo);
        expect.is(1, "undo() again", x::undo);
        expect.tell("the column behind two undo()", "limit 8 [1]", Trace.state(x));
        expect.is(0, "undo() once more", x::undo);
        expect.tell("the column behind three undo()", "limit 8", Trace.state(x));
        expect.fails(STATE, "the fourth undo()", x::undo);
    }

    /** "At most 14 states are remembered" */
    private static void atMost14() {
        for (int actions : new int[] {1, 13, 14, 15, 27, 28, 29, 40}) {
            CodedColumn x = new CodedColumn();
            for (int i = 0; i < actions; i++) {
                x.add(i);
            }
            int known = Math.min(actions, MOST);
            for (int left = known - 1; left >= 0; left--) {
                int due = left;
                expect.is(due, "undo() with " + actions + " actions", x::undo);
            }
            expect.fails(STATE, "undo() of more than there is, with " + actions + " actions", x::undo);
            expect.is(actions - known, "about(0) behind that", () -> x.about(0));
        }
    }

    /** "when one more is remembered, the oldest one is forgotten" */
    private static void oldestIsForgotten() {
        CodedColumn x = new CodedColumn();
        for (int limit = 1; limit <= 12; limit++) {
            x.setLimit(limit);
        }
        x.add(5);
        x.add(6);
        // Remembered are the limits 8 (the first), 1 .. 12, and 12 with one value.
        expect.is(13, "undo() of add(6)", x::undo);
        x.add(6);
        x.add(7);
        for (int left = 13; left >= 0; left--) {
            int due = left;
            expect.is(due, "undo() down to " + left, x::undo);
        }
        expect.fails(STATE, "undo() of what is forgotten", x::undo);
        expect.tell("the oldest state that is left", "limit 1", Trace.state(x));
    }

    /** States are remembered and taken back by turns, so that each is remembered at many places. */
    private static void roundAndRound() {
        CodedColumn x = new CodedColumn();
        for (int round = 0; round < 40; round++) {
            int limit = 1 + round % 12;
            int was = x.about(2);
            int known = Math.min(round + 3, MOST);
            x.setLimit(limit);
            x.add(round);
            x.add(round + 1);
            expect.is(known - 1, "undo() of round " + round, x::undo);
            expect.is(known - 2, "undo() again of round " + round, x::undo);
            expect.is(limit, "about(2) of round " + round, () -> x.about(2));
            expect.is(0, "about(0) of round " + round, () -> x.about(0));
            if (round == 39) {
                x.undo();
                expect.is(was, "about(2) behind the last round", () -> x.about(2));
            }
        }
    }

    /** "the state, which consists of everything but the text ..." */
    private static void textIsNotOfTheState() {
        CodedColumn x = new CodedColumn();
        x.add(1);
        x.append('0');
        x.append('x');
        x.undo();
        expect.is(1, "errorPosition() behind undo()", x::errorPosition);
        expect.is(2, "clearText() behind undo()", x::clearText);
        expect.fails(STATE, "undo(): append and clearText are no actions", x::undo);
        Build.write(x, PAGE);
        x.take();
        x.clearText();
        x.undo();
        expect.is(0, "clearText() behind undo() of take()", x::clearText);
        x.save(0);
        Build.write(x, PAGE);
        x.restore(0);
        expect.is(NONE, "errorPosition() behind restore()", x::errorPosition);
        expect.is(17, "clearText() behind restore()", x::clearText);
    }

    /** append, clearText and errorPosition are no actions, and neither states nor slots are theirs. */
    private static void textLeavesAllElse() {
        Asked[] calls = {x -> x.append('0'), CodedColumn::errorPosition, CodedColumn::clearText};
        for (Asked call : calls) {
            for (int slot = 0; slot < 2; slot++) {
                int other = 1 - slot;
                CodedColumn x = new CodedColumn();
                x.save(slot);
                x.add(1);
                x.add(2);
                call.of(x);
                expect.tell("the column behind a call of the text", "limit 8 [1 2]", Trace.state(x));
                expect.is(1, "undo() behind a call of the text", x::undo);
                expect.is(0, "undo() again", x::undo);
                expect.fails(STATE, "the third undo()", x::undo);
                call.of(x);
                x.add(3);
                call.of(x);
                expect.fails(STATE, "restore(" + other + ") of nothing", () -> x.restore(other));
                int kept = slot;
                expect.is(0, "restore(" + slot + ") behind a call of the text", () -> x.restore(kept));
            }
        }
    }

    /** "... and the save slots" */
    private static void slotsAreNotOfTheState() {
        CodedColumn x = new CodedColumn();
        x.add(1);
        x.add(2);
        x.save(0);
        x.undo();
        x.undo();
        expect.is(2, "restore(0): undo() does not empty the slot", () -> x.restore(0));
        x.add(3);
        x.save(1);
        x.restore(0);
        expect.is(3, "restore(1): restore(0) does not empty it", () -> x.restore(1));
        expect.tell("what the slot kept", "limit 8 [1 2 3]", Trace.state(x));
    }

    /** "restore is not an action." */
    private static void restoreIsNotAnAction() {
        CodedColumn x = new CodedColumn();
        x.save(0);
        x.add(1);
        x.save(1);
        x.restore(0);
        expect.fails(STATE, "undo() behind restore(0)", x::undo);
        expect.tell("the column behind that", "limit 8", Trace.state(x));
        x.add(2);
        x.restore(1);
        x.add(3);
        expect.is(0, "undo() of what came behind restore(1)", x::undo);
        expect.tell("the column behind undo()", "limit 8 [1]", Trace.state(x));
    }

    /** restore: "forgets all remembered states", also 14 of them. */
    private static void restoreForgetsAll() {
        CodedColumn x = new CodedColumn();
        x.save(0);
        for (int actions = 1; actions <= 20; actions++) {
            for (int i = 0; i < actions; i++) {
                x.setLimit(3);
            }
            x.restore(0);
            expect.fails(STATE, "undo() behind " + actions + " actions and restore(0)", x::undo);
            expect.is(8, "about(2) behind that", () -> x.about(2));
        }
    }

    private static void saveRemembersNothing() {
        CodedColumn x = new CodedColumn();
        x.add(1);
        x.save(0);
        x.save(1);
        expect.is(0, "undo() behind save", x::undo);
        expect.tell("the column behind that", "limit 8", Trace.state(x));
        x.save(0);
        expect.fails(STATE, "undo() behind save of nothing", x::undo);
    }
}
