import java.lang.reflect.Array;
import java.lang.reflect.Field;
import java.lang.reflect.Modifier;
import java.util.ArrayList;
import java.util.IdentityHashMap;
import java.util.List;
import java.util.Map;

/**
 * Promise 33. No run of calls leads to a desk that is not sound, so this test reaches into one: it
 * puts each number, truth and reference that the desk holds to other values, one at a time and by
 * no name, and asks whether isSound answers just what the other answers of the face tell then. The
 * rows of boards and notices stay, as a board or notice is found by its place there.
 */
public final class SoundTest {
    private static final int HOURS = 0;
    private static final int CHARGE = 1;
    private static final int WEAR = 2;
    private static final int CHANGES = 3;
    private static final String[] FAULTS = {"a notice outside of its hours",
        "a charge too low to wipe", "a black cell that can't change any more",
        "cells that the changes do not give"};
    /** How often each fault was met alone, with nothing else wrong. */
    private static final int[] MET = new int[FAULTS.length];
    private static int soundAll = 0;

    /** One place in the desk that holds something: a field, or an element of an array. */
    private interface Place {
        Object read() throws IllegalAccessException;

        void write(Object value) throws IllegalAccessException;
    }

    public static void main(String[] args) throws IllegalAccessException {
        FerroDesk desk = busyDesk();
        Check.same("33: sound as it is", desk.isSound(), true);
        List<Object> inside = new ArrayList<>();
        List<Place> places = new ArrayList<>();
        walk(desk, new IdentityHashMap<>(), inside, places);
        String before = Check.stateOf(desk);
        for (Place place : places) {
            Object kept = place.read();
            for (Object other : others(kept, inside)) {
                place.write(other);
                look(desk);
            }
            place.write(kept);
        }
        Check.same("33: all put back", Check.stateOf(desk), before);
        for (int fault = 0; fault < FAULTS.length; fault++) {
            Check.same("33: met alone: " + FAULTS[fault], MET[fault] > 0, true);
        }
        Check.same("33: met with none of these", soundAll > 0, true);
        Check.finish("SoundTest");
    }

    /** Three boards: one shows worn cells, one shows others shifted, one is white and was not. */
    private static FerroDesk busyDesk() {
        FerroDesk desk = new FerroDesk();
        for (int district = 0; district < 3; district++) {
            desk.addBoard(district, 60);
        }
        int[][] rows = {{1, 0x07, 0, 2}, {2, 0x83, 2, 9}, {5, 0x3F, 3, 5}, {0, 0x0101, 1, 3},
            {9, 1, 0, 40}};
        for (int number = 0; number < rows.length; number++) {
            int[] row = rows[number];
            desk.post(row[0], row[1], row[2], row[3]);
            desk.queue(number, number == 3 ? 2 : 0);
        }
        desk.takeBack(4, 1);
        desk.queue(1, 1);
        desk.go(4);
        desk.pass(0, 3);
        return desk;
    }

    private static void look(FerroDesk desk) {
        boolean[] faults;
        try {
            faults = faultsOf(desk);
        } catch (RuntimeException e) {
            return;
        }
        int count = 0;
        int last = 0;
        for (int fault = 0; fault < faults.length; fault++) {
            if (faults[fault]) {
                count++;
                last = fault;
            }
        }
        if (count == 1) {
            MET[last]++;
        } else if (count == 0) {
            soundAll++;
        }
        String what = count == 1 ? FAULTS[last] : count + " faults";
        Check.same("33: with " + what, Check.answer(desk, FerroDesk::isSound), count == 0);
    }

    private static boolean[] faultsOf(FerroDesk desk) {
        boolean[] faults = new boolean[FAULTS.length];
        for (int board = 0; board < desk.boards(); board++) {
            int black = 0;
            for (int cell = 0; cell < 32; cell++) {
                int column = cell % 8;
                int row = cell / 8;
                int shown = desk.cell(board, column, row);
                black += shown;
                faults[WEAR] |= shown == 1 && desk.wear(board, column, row) >= 60;
                faults[CHANGES] |= shown != desk.cellAnew(board, column, row);
            }
            faults[CHARGE] |= desk.charge(board) < black;
            int notice = desk.shows(board);
            faults[HOURS] |= notice != -1 && !desk.isDue(notice);
        }
        return faults;
    }

    private static void walk(Object from, Map<Object, Boolean> seen, List<Object> inside,
            List<Place> places) throws IllegalAccessException {
        if (from == null || from instanceof String || seen.put(from, true) != null) {
            return;
        }
        inside.add(from);
        if (from.getClass().isArray()) {
            for (int i = 0; i < Array.getLength(from); i++) {
                if (from.getClass().getComponentType().isPrimitive()) {
                    places.add(element(from, i));
                } else {
                    walk(Array.get(from, i), seen, inside, places);
                }
            }
            return;
        }
        for (Field field : from.getClass().getDeclaredFields()) {
            int kind = field.getModifiers();
            if (!Modifier.isStatic(kind)) {
                field.setAccessible(true);
                if (!Modifier.isFinal(kind)) {
                    places.add(field(from, field));
                }
                if (!field.getType().isPrimitive()) {
                    walk(field.get(from), seen, inside, places);
                }
            }
        }
    }

    private static Place field(Object of, Field field) {
        return new Place() {
            @Override
            public Object read() throws IllegalAccessException {
                return field.get(of);
            }

            @Override
            public void write(Object value) throws IllegalAccessException {
                field.set(of, value);
            }
        };
    }

    private static Place element(Object array, int index) {
        return new Place() {
            @Override
            public Object read() {
                return Array.get(array, index);
            }

            @Override
            public void write(Object value) {
                Array.set(array, index, value);
            }
        };
    }

    /** Other values that the place can hold; those of a reference are of its own class. */
    private static List<Object> others(Object kept, List<Object> inside) {
        List<Object> out = new ArrayList<>();
        if (kept instanceof Boolean) {
            out.add(!(Boolean) kept);
        } else if (kept instanceof Integer) {
            int number = (Integer) kept;
            for (int near = 0; near <= 64; near++) {
                out.add(near);
            }
            for (int bit = 0; bit < 32; bit++) {
                out.add(number ^ 1 << bit);
            }
            out.add(-1);
        } else if (kept != null && !kept.getClass().isArray()) {
            for (Object object : inside) {
                if (object.getClass() == kept.getClass()) {
                    out.add(object);
                }
            }
        }
        return out;
    }
}
