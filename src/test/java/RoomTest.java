import java.lang.reflect.Array;
import java.lang.reflect.Field;
import java.lang.reflect.Modifier;
import java.util.ArrayDeque;
import java.util.Collections;
import java.util.Deque;
import java.util.IdentityHashMap;
import java.util.Set;

/**
 * "All calls of one run live in one room": what an object of the class holds is made with it, stays as
 * large as it was through 512 calls, and is far below the room. Nor does the column hold a part of another.
 */
public final class RoomTest {
    private static final int MOST_CALLS = 512;
    private static final int MOST_OBJECTS = 300;
    private static final int MOST_CELLS = 5000;

    private static final Expect expect = new Expect();

    public static void main(String[] args) throws IllegalAccessException {
        CodedColumn x = new CodedColumn();
        Set<Object> atFirst = heldBy(x);
        int cells = cellsOf(atFirst);
        expect.is(1, atFirst.size() + " objects and arrays are few", () -> atFirst.size() <= MOST_OBJECTS ? 1 : 0);
        expect.is(1, cells + " fields and elements are few", () -> cells <= MOST_CELLS ? 1 : 0);
        for (int i = 0; i < MOST_CALLS; i++) {
            call(x, i);
        }
        Set<Object> atEnd = heldBy(x);
        int cellsAtEnd = cellsOf(atEnd);
        expect.is(1, "the objects are those made at first", () -> atEnd.equals(atFirst) ? 1 : 0);
        expect.is(cells, "the fields and elements at the end", () -> cellsAtEnd);
        Set<Object> both = heldBy(new CodedColumn());
        both.retainAll(atEnd);
        expect.is(0, "what two columns hold both", both::size);
        expect.end();
    }

    private static void call(CodedColumn x, int i) {
        int page = i / 28 % 10;
        Expect.outcome(() -> {
            switch (i % 28) {
                case 0: return x.append('0' + i / 28 % 2);
                case 1: return x.clearText() + x.append('0');
                case 2: return x.errorPosition();
                case 3: return x.about(i % 9);
                case 4: return x.at(i % 9);
                case 5: return x.page(page, i % 9);
                case 6: return x.bit(page, i % 30);
                case 7: return x.size(page, i % 5);
                case 8: return x.scan(i, i % 3 == 0);
                case 9: return x.sum(0, i % 9);
                case 10: return x.add(i);
                case 11: return x.put(i % 9, i);
                case 12: return x.add(7);
                case 13: return x.cut(page, 1);
                case 14: return i % 5 == 0 ? x.merge(page) : x.add(i);
                case 15: return i % 7 == 0 ? x.compact() : x.add(7);
                case 16: return x.pin(page, i % 5);
                case 17: return x.setLimit(1 + i % 12);
                case 18: return x.take();
                case 19: return i % 3 == 0 ? x.undo() : x.add(i);
                case 20: return x.gain(page);
                case 21: return x.bestCut(page);
                case 22: return x.smallest();
                case 23: return x.bestNext(page);
                case 24: return x.runScript(3, 100007600000700100L);
                case 25: return x.simulate(i, 99);
                case 26: return x.save(i / 28 % 2);
                default: return i % 3 == 0 ? x.restore(i / 28 % 2) : x.remove(0);
            }
        });
    }

    /** All objects and arrays that can be reached from the column. */
    private static Set<Object> heldBy(CodedColumn x) throws IllegalAccessException {
        Set<Object> seen = Collections.newSetFromMap(new IdentityHashMap<>());
        Deque<Object> open = new ArrayDeque<>();
        open.add(x);
        while (!open.isEmpty()) {
            Object one = open.remove();
            if (seen.add(one)) {
                addParts(one, open);
            }
        }
        return seen;
    }

    private static void addParts(Object one, Deque<Object> open) throws IllegalAccessException {
        if (one instanceof Object[] row) {
            for (Object part : row) {
                addPart(part, open);
            }
        } else if (!one.getClass().isArray()) {
            for (Field field : one.getClass().getDeclaredFields()) {
                if (!Modifier.isStatic(field.getModifiers()) && !field.getType().isPrimitive()) {
                    field.setAccessible(true);
                    addPart(field.get(one), open);
                }
            }
        }
    }

    private static void addPart(Object part, Deque<Object> open) {
        if (part != null) {
            open.add(part);
        }
    }

    private static int cellsOf(Set<Object> objects) {
        int cells = 0;
        for (Object one : objects) {
            cells += one.getClass().isArray() ? Array.getLength(one) : one.getClass().getDeclaredFields().length;
        }
        return cells;
    }
}
