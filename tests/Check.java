import java.lang.reflect.InvocationTargetException;
import java.lang.reflect.Method;
import java.util.HashMap;
import java.util.Map;
import java.util.Objects;

/** Counts what the tests find; a test class ends with finish. */
final class Check {
    private static final Map<String, Method> METHODS = new HashMap<>();
    private static int asked = 0;
    private static int wrong = 0;

    interface Call {
        Object on(FerroDesk desk);
    }

    private Check() {
    }

    static void same(String what, Object got, Object want) {
        asked++;
        if (!Objects.equals(got, want)) {
            wrong++;
            System.out.println(what + " answered " + got + ", due is " + want);
        }
    }

    /** The call throws just this exception, by the document's own throw, and changes nothing. */
    static void refuses(String what, FerroDesk desk, Class<?> due, Call call) {
        String before = stateOf(desk);
        same(what, answer(desk, call), due.getSimpleName());
        same(what + ", the state behind it", stateOf(desk), before);
    }

    /** The answer, or the simple name of the exception. */
    static Object answer(FerroDesk desk, Call call) {
        try {
            return call.on(desk);
        } catch (RuntimeException e) {
            return e.getClass().getSimpleName();
        }
    }

    /**
     * What a FerroDesk or the Model answers to a call, or the simple name of the exception's own
     * class: one below the due one is wrong.
     */
    static Object ask(Object on, String name, Object... values) {
        Method method = METHODS.computeIfAbsent(on.getClass().getName() + " " + name, key -> {
            for (Method found : on.getClass().getMethods()) {
                if (found.getName().equals(name)) {
                    return found;
                }
            }
            throw new IllegalStateException("there is no call " + name);
        });
        try {
            return method.invoke(on, values);
        } catch (InvocationTargetException e) {
            return e.getCause().getClass().getSimpleName();
        } catch (IllegalAccessException e) {
            throw new IllegalStateException(e);
        }
    }

    /** All that a FerroDesk or the Model tells of itself in this hour. */
    static String stateOf(Object on) {
        StringBuilder text = new StringBuilder();
        Object hour = ask(on, "hour");
        int boards = (Integer) ask(on, "boards");
        int notices = (Integer) ask(on, "notices");
        text.append(hour).append(' ').append(boards).append(' ').append(notices);
        tell(text, on, "changes");
        tell(text, on, "checksum");
        tell(text, on, "isSound");
        tell(text, on, "shownShare");
        tell(text, on, "meanWear");
        for (int board = 0; board < boards; board++) {
            text.append("\nboard");
            String[] calls = {"charge", "shows", "shift", "sleeps", "worst"};
            for (String call : calls) {
                tell(text, on, call, board);
            }
            for (int cell = 0; cell < 32; cell++) {
                tell(text, on, "cellAnew", board, cell % 8, cell / 8);
            }
        }
        for (int notice = 0; notice < notices; notice++) {
            text.append("\nnotice");
            tell(text, on, "isDue", notice);
            tell(text, on, "readIn", notice, hour);
            for (int district = 0; district < 4; district++) {
                tell(text, on, "readers", notice, district);
            }
        }
        for (int district = 0; district < 4; district++) {
            text.append("\nqueue").append(queueOf(on, district));
        }
        return text.toString();
    }

    private static void tell(StringBuilder text, Object on, String call, Object... values) {
        text.append(' ').append(ask(on, call, values));
    }

    static String queueOf(Object on, int district) {
        StringBuilder text = new StringBuilder();
        int queued = (Integer) ask(on, "queued", district);
        for (int index = 0; index < queued; index++) {
            tell(text, on, "queuedAt", district, index);
        }
        return text.toString();
    }

    /** The cells of a board as a picture. */
    static int cellsOf(FerroDesk desk, int board) {
        int picture = 0;
        for (int row = 0; row < 4; row++) {
            for (int column = 0; column < 8; column++) {
                picture |= desk.cell(board, column, row) << 8 * row + column;
            }
        }
        return picture;
    }

    static void finish(String name) {
        System.out.println(name + ": " + asked + " answers looked at, " + wrong + " wrong");
        if (wrong != 0 || asked == 0) {
            System.exit(1);
        }
    }
}
