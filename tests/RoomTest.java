import java.lang.reflect.Array;
import java.lang.reflect.Field;
import java.lang.reflect.Modifier;
import java.util.ArrayDeque;
import java.util.Deque;
import java.util.IdentityHashMap;
import java.util.Map;

/**
 * The room that all calls of one run share. To make a desk is the dearest call, and no other one
 * makes anything but the exception that it throws: a desk holds as much after its 512 calls as at
 * first, the very same objects.
 */
public final class RoomTest {
    private static final int CALLS = 512;
    private static final long MOST_OBJECTS = 600_000;
    private static final long MOST_ELEMENTS = 7_300_000;

    public static void main(String[] args) throws IllegalAccessException {
        FerroDesk desk = new FerroDesk();
        Map<Object, Boolean> held = heldBy(desk);
        long elements = elementsOf(held);
        Check.same("the calls' objects", held.size() * (long) CALLS <= MOST_OBJECTS, true);
        Check.same("the calls' fields and elements", elements * CALLS <= MOST_ELEMENTS, true);
        Check.same("something was counted", held.size() > 1 && elements > 1, true);
        int calls = use(desk);
        Check.same("all calls of an object, not " + calls, calls, CALLS);
        Map<Object, Boolean> heldLater = heldBy(desk);
        Check.same("as many objects", heldLater.size(), held.size());
        Check.same("as many fields and elements", elementsOf(heldLater), elements);
        Check.same("the same ones", held.keySet().containsAll(heldLater.keySet()), true);
        Check.finish("RoomTest");
    }

    /** All boards and notices, each hour a change, and readers at every board. */
    private static int use(FerroDesk desk) {
        int calls = 0;
        for (int board = 0; board < 6; board++) {
            desk.addBoard(board % 4, 200);
            calls++;
        }
        for (int number = 0; number < 30; number++) {
            desk.post(number % 10, -1 >>> number, number, 60);
            desk.queue(number, number % 4);
            calls += 2;
        }
        while (calls < CALLS) {
            int turn = calls % 8;
            if (turn == 0) {
                desk.go(1);
            } else if (turn < 7) {
                desk.pass(turn - 1, 9);
            } else if (desk.notices() < 40) {
                desk.mend(desk.notices() - 1, calls);
                calls++;
            } else {
                Check.refuses("a full desk", desk, IllegalStateException.class,
                        on -> on.deny(1, 0, 2000));
            }
            calls++;
        }
        return calls;
    }

    private static Map<Object, Boolean> heldBy(FerroDesk desk) throws IllegalAccessException {
        Map<Object, Boolean> held = new IdentityHashMap<>();
        Deque<Object> open = new ArrayDeque<>();
        open.add(desk);
        while (!open.isEmpty()) {
            Object next = open.remove();
            if (held.put(next, true) != null) {
                continue;
            }
            if (next.getClass().isArray()) {
                addElements(next, open);
            } else {
                addFields(next, open);
            }
        }
        return held;
    }

    private static void addElements(Object array, Deque<Object> open) {
        if (array instanceof Object[]) {
            for (Object element : (Object[]) array) {
                if (element != null) {
                    open.add(element);
                }
            }
        }
    }

    private static void addFields(Object object, Deque<Object> open)
            throws IllegalAccessException {
        for (Field field : object.getClass().getDeclaredFields()) {
            if (!Modifier.isStatic(field.getModifiers()) && !field.getType().isPrimitive()) {
                field.setAccessible(true);
                if (field.get(object) != null) {
                    open.add(field.get(object));
                }
            }
        }
    }

    private static long elementsOf(Map<Object, Boolean> held) {
        long count = 0;
        for (Object object : held.keySet()) {
            if (object.getClass().isArray()) {
                count += Array.getLength(object);
            } else {
                for (Field field : object.getClass().getDeclaredFields()) {
                    count += Modifier.isStatic(field.getModifiers()) ? 0 : 1;
                }
            }
        }
        return count;
    }
}
