import java.lang.reflect.Array;
import java.lang.reflect.Field;
import java.lang.reflect.Modifier;
import java.util.Collections;
import java.util.IdentityHashMap;
import java.util.Set;

/** How much an object holds: all of it is made with it, and no call lets it hold anything else. */
public final class RoomTest {
    private static final int MOST_OBJECTS = 155;
    private static final int MOST_CELLS = 3650;

    private final Set<Object> found = Collections.newSetFromMap(new IdentityHashMap<>());
    private int cells;

    private RoomTest(Object from) throws IllegalAccessException {
        walk(from);
    }

    public static void main(String[] args) throws IllegalAccessException {
        Check check = new Check("The room of an object");
        ChunkedNodes x = new ChunkedNodes();
        RoomTest before = new RoomTest(x);
        check.same("objects and arrays in " + MOST_OBJECTS, before.found.size() <= MOST_OBJECTS, true);
        check.same("fields and elements in " + MOST_CELLS, before.cells <= MOST_CELLS, true);
        useAll(check, x);
        RoomTest after = new RoomTest(x);
        check.same("objects and arrays after the calls", after.found.size(), before.found.size());
        check.same("they are the same ones", before.found.containsAll(after.found), true);
        check.same("fields and elements after the calls", after.cells, before.cells);
        check.end();
    }

    private void walk(Object object) throws IllegalAccessException {
        if (object == null || !found.add(object)) {
            return;
        }
        Class<?> type = object.getClass();
        if (type.isArray()) {
            cells += Array.getLength(object);
            for (int i = 0; i < Array.getLength(object) && !type.getComponentType().isPrimitive(); i++) {
                walk(Array.get(object, i));
            }
            return;
        }
        for (Field field : type.getDeclaredFields()) {
            if (!Modifier.isStatic(field.getModifiers())) {
                cells++;
                field.setAccessible(true);
                walk(field.getType().isPrimitive() ? null : field.get(object));
            }
        }
    }

    /** As many nodes, items, notices and parcels as there can be, of the longest values. */
    private static void useAll(Check check, ChunkedNodes x) {
        for (int node = 1; node < 16; node++) {
            x.variable(0, 0);
        }
        int sequence = 0;
        for (int item = 0; item < 6; item++) {
            x.chunk(1, sequence++, 1, Wire.pack(Wire.watch(1, 4, item % 2)), 5);
        }
        for (int round = 0; round < 9; round++) {
            int[] text = new int[56];
            text[0] = round;
            int[] message = Wire.write(1, Wire.text(text));
            for (int from = 0; from < message.length; from += 8) {
                int[] bytes = java.util.Arrays.copyOfRange(message, from, Math.min(from + 8, message.length));
                x.chunk(from + 8 < message.length ? 0 : 1, sequence++, 2, Wire.pack(bytes), bytes.length);
            }
            check.same("round " + round + ": WRITE", x.answer(0), 0);
        }
        for (int round = 0; round < 4; round++) {
            check.same("notices of item 5", x.queue(5), 4);
            check.same("PUBLISH", x.chunk(1, sequence++, 3, 5, 2), ChunkedNodes.ANSWERED);
        }
        check.same("AGAIN", x.chunk(1, sequence++, 4, Wire.pack(Wire.again(2)), 5), ChunkedNodes.ANSWERED);
        check.same("the longest answer", x.answerLength(), 195);
        x.open();
    }
}
