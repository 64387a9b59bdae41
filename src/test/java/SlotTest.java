/** Promises 28 and 29: save, restore. */
public final class SlotTest {
    private static final Class<IllegalStateException> STATE = IllegalStateException.class;
    private static final int[] FAR = {-1, 2, 3, Integer.MIN_VALUE, Integer.MAX_VALUE};

    private static final Expect expect = new Expect();

    public static void main(String[] args) {
        slots();
        states();
        expect.end();
    }

    private static void slots() {
        CodedColumn x = new CodedColumn();
        expect.fails(STATE, "restore(0) of nothing", () -> x.restore(0));
        expect.fails(STATE, "restore(1) of nothing", () -> x.restore(1));
        for (int far : FAR) {
            expect.fails(IndexOutOfBoundsException.class, "save(" + far + ")", () -> x.save(far));
            expect.fails(IndexOutOfBoundsException.class, "restore(" + far + ")", () -> x.restore(far));
        }
        expect.is(0, "save(1)", () -> x.save(1));
        expect.fails(STATE, "restore(0) behind save(1)", () -> x.restore(0));
        x.add(5);
        x.add(6);
        expect.is(2, "save(0)", () -> x.save(0));
        expect.is(0, "restore(1)", () -> x.restore(1));
        expect.is(0, "about(1) behind restore(1)", () -> x.about(1));
        expect.is(2, "restore(0)", () -> x.restore(0));
        expect.is(6, "at(1) behind restore(0)", () -> x.at(1));
        x.remove(1);
        x.put(0, 9);
        expect.is(2, "restore(0) again: the slot keeps it", () -> x.restore(0));
        expect.is(5, "at(0) behind that", () -> x.at(0));
        x.add(7);
        expect.is(3, "save(0) over what it kept", () -> x.save(0));
        x.compact();
        x.remove(0);
        expect.is(3, "restore(0) of that", () -> x.restore(0));
        expect.is(5, "at(0) of that", () -> x.at(0));
    }

    private static void states() {
        CodedColumn x = Build.pages(Build.page(1, 2), Build.page(3));
        x.pin(1, 3);
        x.setLimit(5);
        Build.write(x, "0001");
        x.save(0);
        x.undo();
        x.undo();
        x.undo();
        x.merge(0);
        expect.is(3, "restore(0)", () -> x.restore(0));
        expect.is(2, "about(1) behind restore", () -> x.about(1));
        expect.is(5, "about(2) behind restore", () -> x.about(2));
        expect.is(3, "page(1, 8) behind restore", () -> x.page(1, 8));
        expect.is(4, "clearText() behind restore: the text is not of the state", x::clearText);
        expect.fails(STATE, "undo() behind restore", x::undo);
        x.add(4);
        expect.is(0, "undo() of the add behind restore", x::undo);
        x.setLimit(6);
        expect.is(3, "save(1) keeps what is remembered", () -> x.save(1));
        expect.is(0, "undo() behind save", x::undo);
        expect.is(3, "restore(1)", () -> x.restore(1));
        expect.is(6, "about(2) behind restore(1)", () -> x.about(2));
        expect.fails(STATE, "undo() behind restore(1)", x::undo);
    }
}
