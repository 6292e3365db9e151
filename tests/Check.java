import java.util.Objects;

/** Counts what the tests find; a test class ends with finish. */
final class Check {
    private static int asked = 0;
    private static int wrong = 0;

    interface Call {
        Object on(FerroDesk desk);
    }

    private Check() {
    }

    static void same(String what, Object got, Object want) {
        asked++;
        if (!Objects.equals(got, want)) {
            wrong++;
            System.out.println(what + " answered " + got + ", due is " + want);
        }
    }

    /** The call throws just this exception, by the document's own throw, and changes nothing. */
    static void refuses(String what, FerroDesk desk, Class<?> due, Call call) {
        String before = stateOf(desk);
        same(what, answer(desk, call), due.getSimpleName());
        same(what + ", the state behind it", stateOf(desk), before);
    }

    /** The answer, or the simple name of the exception. */
    static Object answer(FerroDesk desk, Call call) {
        try {
            return call.on(desk);
        } catch (RuntimeException e) {
            return e.getClass().getSimpleName();
        }
    }

    static String stateOf(FerroDesk desk) {
        StringBuilder text = new StringBuilder();
        text.append(desk.hour()).append(' ').append(desk.boards()).append(' ')
                .append(desk.notices()).append(' ').append(desk.changes()).append(' ')
                .append(desk.checksum()).append(' ').append(desk.isSound());
        for (int board = 0; board < desk.boards(); board++) {
            text.append("\nboard ").append(desk.charge(board)).append(' ')
                    .append(desk.shows(board)).append(' ').append(desk.shift(board)).append(' ')
                    .append(desk.sleeps(board));
        }
        for (int notice = 0; notice < desk.notices(); notice++) {
            text.append("\nnotice ").append(desk.isDue(notice)).append(' ')
                    .append(desk.readIn(notice, desk.hour()));
            for (int district = 0; district < 4; district++) {
                text.append(' ').append(desk.readers(notice, district));
            }
        }
        for (int district = 0; district < 4; district++) {
            text.append("\nqueue").append(queueOf(desk, district));
        }
        return text.toString();
    }

    static String queueOf(FerroDesk desk, int district) {
        StringBuilder text = new StringBuilder();
        for (int index = 0; index < desk.queued(district); index++) {
            text.append(' ').append(desk.queuedAt(district, index));
        }
        return text.toString();
    }

    /** The cells of a board as a picture. */
    static int cellsOf(FerroDesk desk, int board) {
        int picture = 0;
        for (int row = 0; row < 4; row++) {
            for (int column = 0; column < 8; column++) {
                picture |= desk.cell(board, column, row) << 8 * row + column;
            }
        }
        return picture;
    }

    static void finish(String name) {
        System.out.println(name + ": " + asked + " answers looked at, " + wrong + " wrong");
        if (wrong != 0 || asked == 0) {
            System.exit(1);
        }
    }
}
