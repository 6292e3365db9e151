/** Promises 1 to 9: a new desk, boards and power. */
public final class BoardsTest {
    public static void main(String[] args) {
        aNewObject();
        noBoardYet();
        addBoard();
        leastAndGreatestCharge();
        setSun();
        charge();
        cellAndWear();
        showsAndShift();
        sleeps();
        Check.finish("BoardsTest");
    }

    private static void aNewObject() {
        FerroDesk desk = new FerroDesk();
        Check.same("1: hour", desk.hour(), 0);
        Check.same("1: boards", desk.boards(), 0);
        Check.same("1: notices", desk.notices(), 0);
        Check.same("1: changes", desk.changes(), 0L);
        Check.same("1: checksum", desk.checksum(), 0L);
        for (int district = 0; district < 4; district++) {
            Check.same("1: queued", desk.queued(district), 0);
        }
        FerroDesk other = new FerroDesk();
        desk.addBoard(0, 0);
        desk.post(0, 1, 0, 1);
        desk.go(1);
        Check.same("1: another desk's boards", other.boards(), 0);
        Check.same("1: another desk's notices", other.notices(), 0);
        Check.same("1: another desk's hour", other.hour(), 0);
    }

    private static void noBoardYet() {
        FerroDesk desk = new FerroDesk();
        desk.queue(desk.post(3, 7, 0, 9), 0);
        desk.go(1);
        int[] boards = {-1, 0, 5, 6, Integer.MIN_VALUE, Integer.MAX_VALUE};
        for (int board : boards) {
            Class<?> due = IndexOutOfBoundsException.class;
            Check.refuses("4: no board", desk, due, on -> on.charge(board));
            Check.refuses("5: no board", desk, due, on -> on.cell(board, 0, 0));
            Check.refuses("6: no board", desk, due, on -> on.wear(board, 7, 3));
            Check.refuses("7: no board", desk, due, on -> on.shows(board));
            Check.refuses("8: no board", desk, due, on -> on.shift(board));
            Check.refuses("9: no board", desk, due, on -> on.sleeps(board));
            Check.refuses("18: no board", desk, due, on -> on.pass(board, 1));
            Check.refuses("27: no board", desk, due, on -> on.cellAnew(board, 0, 0));
            Check.refuses("29: no board", desk, due, on -> on.worst(board));
        }
        Check.same("2: the first one", desk.addBoard(3, 7), 0);
        Check.same("4: it is there", desk.charge(0), 7);
    }

    private static void leastAndGreatestCharge() {
        FerroDesk desk = new FerroDesk();
        desk.addBoard(0, 0);
        desk.addBoard(3, 200);
        Check.same("2: a charge of 0", desk.charge(0), 0);
        Check.same("2: a charge of 200", desk.charge(1), 200);
        desk.setSun(0);
        desk.go(48);
        Check.same("3: a sun of 0", desk.charge(0), 0);
        desk.setSun(20);
        desk.go(1);
        Check.same("3: a sun of 20", desk.charge(0), 20);
        Check.same("4: 200 stay 200", desk.charge(1), 200);
        desk.go(9);
        Check.same("4: 200 at last", desk.charge(0), 200);
        desk.go(1);
        Check.same("4: and no more", desk.charge(0), 200);
    }

    private static void addBoard() {
        FerroDesk desk = new FerroDesk();
        int[][] wrong = {{-1, 0}, {4, 0}, {0, -1}, {0, 201}, {Integer.MIN_VALUE, 0},
            {Integer.MAX_VALUE, 0}, {0, Integer.MIN_VALUE}, {0, Integer.MAX_VALUE}};
        for (int[] row : wrong) {
            Check.refuses("2: addBoard", desk, IllegalArgumentException.class,
                    on -> on.addBoard(row[0], row[1]));
        }
        for (int board = 0; board < 6; board++) {
            Check.same("2: number", desk.addBoard(board % 4, 40 * board), board);
            Check.same("2: charge", desk.charge(board), 40 * board);
            Check.same("2: shows", desk.shows(board), -1);
            Check.same("2: shift", desk.shift(board), 0);
            Check.same("2: sleeps", desk.sleeps(board), false);
            Check.same("2: cells", Check.cellsOf(desk, board), 0);
            Check.same("2: worst", desk.worst(board), 0);
        }
        Check.refuses("2: a seventh", desk, IllegalStateException.class, on -> on.addBoard(0, 0));
        Check.refuses("2: a wrong seventh", desk, IllegalArgumentException.class,
                on -> on.addBoard(4, 0));
        Check.refuses("2: a wrong seventh", desk, IllegalArgumentException.class,
                on -> on.addBoard(0, 201));
    }

    private static void setSun() {
        FerroDesk desk = new FerroDesk();
        desk.addBoard(0, 0);
        Check.same("3: at first", desk.setSun(20), 2);
        desk.go(1);
        Check.same("3: charged", desk.charge(0), 20);
        int[] wrong = {-1, 21, Integer.MIN_VALUE, Integer.MAX_VALUE};
        for (int sun : wrong) {
            Check.refuses("3: setSun", desk, IllegalArgumentException.class, on -> on.setSun(sun));
        }
        Check.same("3: still", desk.setSun(0), 20);
        desk.go(3);
        Check.same("3: no sun", desk.charge(0), 20);
        Check.same("3: none before", desk.setSun(7), 0);
        Check.same("3: the same", desk.setSun(7), 7);
        desk.go(2);
        Check.same("3: seven", desk.charge(0), 34);
    }

    private static void charge() {
        FerroDesk desk = new FerroDesk();
        Check.refuses("4: none", desk, IndexOutOfBoundsException.class, on -> on.charge(0));
        desk.addBoard(0, 195);
        desk.addBoard(1, 0);
        desk.go(2);
        Check.same("4: by a sun of 2", desk.charge(0), 199);
        desk.go(1);
        Check.same("4: at most 200", desk.charge(0), 200);
        Check.same("4: the other", desk.charge(1), 6);
        desk.queue(desk.post(0, 7, 0, 5), 1);
        desk.go(1);
        Check.same("4: a charge, and three changes", desk.charge(1), 5);
        desk.go(1);
        Check.same("4: a charge, and a wipe", desk.charge(1), 4);
        desk.queue(desk.post(0, 255, 0, 99), 0);
        desk.go(1);
        Check.same("4: the most is reached ahead of the changes", desk.charge(0), 192);
        Check.refuses("4: no board", desk, IndexOutOfBoundsException.class, on -> on.charge(2));
        Check.refuses("4: no board", desk, IndexOutOfBoundsException.class, on -> on.charge(-1));
        Check.refuses("4: no board", desk, IndexOutOfBoundsException.class,
                on -> on.charge(Integer.MAX_VALUE));
    }

    private static void cellAndWear() {
        FerroDesk desk = new FerroDesk();
        desk.addBoard(3, 200);
        desk.addBoard(0, 200);
        int picture = 1 << 5 | 1 << 8 | 1 << 23 | 1 << 30;
        desk.queue(desk.post(0, picture, 0, 3), 3);
        desk.go(1);
        for (int row = 0; row < 4; row++) {
            for (int column = 0; column < 8; column++) {
                int due = picture >>> 8 * row + column & 1;
                Check.same("5: cell", desk.cell(0, column, row), due);
                Check.same("6: wear", desk.wear(0, column, row), due);
                Check.same("5: cell of the other", desk.cell(1, column, row), 0);
                Check.same("6: wear of the other", desk.wear(1, column, row), 0);
            }
        }
        desk.go(2);
        Check.same("5: wiped", desk.cell(0, 5, 0), 0);
        Check.same("6: wiped", desk.wear(0, 5, 0), 2);
        Check.same("6: never changed", desk.wear(0, 4, 0), 0);
        int[][] wrong = {{-1, 0, 0}, {2, 0, 0}, {0, -1, 0}, {0, 8, 0}, {0, 0, -1}, {0, 0, 4},
            {0, 0, Integer.MAX_VALUE}, {0, Integer.MIN_VALUE, 0}, {0, 8, -1}, {0, -8, 1},
            {0, 9, -1}};
        for (int[] row : wrong) {
            Check.refuses("5: cell", desk, IndexOutOfBoundsException.class,
                    on -> on.cell(row[0], row[1], row[2]));
            Check.refuses("6: wear", desk, IndexOutOfBoundsException.class,
                    on -> on.wear(row[0], row[1], row[2]));
        }
    }

    private static void showsAndShift() {
        FerroDesk desk = new FerroDesk();
        desk.addBoard(0, 200);
        desk.addBoard(1, 200);
        desk.queue(desk.post(4, 3, 0, 2), 0);
        desk.queue(desk.post(4, 3, 2, 4), 0);
        Check.same("7: not before an hour", desk.shows(0), -1);
        desk.go(1);
        Check.same("7: shows", desk.shows(0), 0);
        Check.same("8: the least shift", desk.shift(0), 0);
        Check.same("7: another district", desk.shows(1), -1);
        Check.same("8: another district", desk.shift(1), 0);
        desk.go(1);
        Check.same("7: shows the next", desk.shows(0), 1);
        Check.same("8: ahead of the worn cells", desk.shift(0), 2);
        Check.same("8: two columns to the right", Check.cellsOf(desk, 0), 12);
        desk.go(2);
        Check.same("7: shows none", desk.shows(0), -1);
        Check.same("8: none", desk.shift(0), 0);
        int[] wrong = {-1, 2, 6, Integer.MIN_VALUE, Integer.MAX_VALUE};
        for (int board : wrong) {
            Check.refuses("7: shows", desk, IndexOutOfBoundsException.class, on -> on.shows(board));
            Check.refuses("8: shift", desk, IndexOutOfBoundsException.class, on -> on.shift(board));
            Check.refuses("9: sleeps", desk, IndexOutOfBoundsException.class,
                    on -> on.sleeps(board));
        }
    }

    private static void sleeps() {
        FerroDesk desk = new FerroDesk();
        desk.setSun(0);
        desk.addBoard(0, 6);
        desk.addBoard(0, 200);
        desk.queue(desk.post(1, 7, 0, 9), 0);
        desk.queue(desk.post(0, 255, 0, 9), 0);
        desk.go(1);
        Check.same("9: those behind are not looked at", desk.sleeps(0), false);
        desk.queue(desk.post(9, 255, 3, 6), 0);
        desk.go(1);
        Check.same("9: not due yet", desk.sleeps(0), false);
        desk.go(1);
        Check.same("9: one ahead could not be shown", desk.sleeps(0), true);
        Check.same("9: it keeps what it shows", desk.shows(0), 0);
        Check.same("9: the other can", desk.sleeps(1), false);
        Check.same("9: the other shows it", desk.shows(1), 2);
        desk.go(3);
        Check.same("9: over", desk.sleeps(0), false);
        FerroDesk dark = new FerroDesk();
        dark.setSun(0);
        dark.addBoard(0, 1);
        dark.go(1);
        Check.same("9: no notice", dark.sleeps(0), false);
        dark.queue(dark.post(5, 1, 0, 4), 0);
        Check.same("9: not before an hour", dark.sleeps(0), false);
        dark.go(1);
        Check.same("9: none could be shown", dark.sleeps(0), true);
        Check.same("9: stays white", dark.shows(0), -1);
        dark.setSun(1);
        dark.go(1);
        Check.same("9: shown at last", dark.sleeps(0), false);
        dark.go(1);
        Check.same("9: wiped for its hours is no sleep", dark.sleeps(0), false);
    }
}
