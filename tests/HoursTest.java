/** Promises 23 to 33: hours and figures. */
public final class HoursTest {
    public static void main(String[] args) {
        go();
        counts();
        cellAnew();
        cellAnewOfManyChanges();
        changesAndWorst();
        checksum();
        shares();
        isSound();
        Check.finish("HoursTest");
    }

    private static void go() {
        FerroDesk desk = new FerroDesk();
        desk.addBoard(0, 0);
        int[] wrong = {0, -1, 49, Integer.MIN_VALUE, Integer.MAX_VALUE};
        for (int hours : wrong) {
            Check.refuses("23: hours", desk, IllegalArgumentException.class, on -> on.go(hours));
        }
        Check.same("23: one", desk.go(1), 1);
        Check.same("24: one", desk.hour(), 1);
        for (int i = 1; i <= 41; i++) {
            Check.same("23: the most at once", desk.go(48), 1 + 48 * i);
        }
        Check.same("23: on to 1990", desk.go(21), 1990);
        Check.refuses("23: later than 2000", desk, IllegalStateException.class, on -> on.go(11));
        Check.refuses("23: later than 2000", desk, IllegalStateException.class, on -> on.go(48));
        Check.refuses("23: first of all out of range", desk, IllegalArgumentException.class,
                on -> on.go(49));
        Check.same("23: on to 2000", desk.go(10), 2000);
        Check.same("24: 2000", desk.hour(), 2000);
        Check.refuses("23: no more", desk, IllegalStateException.class, on -> on.go(1));
        Check.refuses("14: no later hour", desk, IllegalArgumentException.class,
                on -> on.deny(1, 0, 2000));
        FerroDesk steps = new FerroDesk();
        FerroDesk leap = new FerroDesk();
        prepare(steps);
        prepare(leap);
        for (int i = 0; i < 12; i++) {
            steps.go(1);
        }
        leap.go(12);
        Check.same("23: each hour goes by", Check.stateOf(leap), Check.stateOf(steps));
    }

    private static void prepare(FerroDesk desk) {
        desk.addBoard(0, 30);
        desk.addBoard(1, 3);
        for (int number = 0; number < 8; number++) {
            desk.post(number, 0x1F << number, number, 2 * number + 2);
            desk.queue(number, number % 2);
            desk.queue(number, 0);
        }
    }

    private static void counts() {
        FerroDesk desk = new FerroDesk();
        Check.same("24: at first", desk.hour(), 0);
        desk.addBoard(0, 0);
        desk.addBoard(0, 0);
        Check.same("25: boards", desk.boards(), 2);
        desk.post(0, 1, 0, 9);
        Check.same("26: posted", desk.notices(), 1);
        desk.mend(0, 2);
        Check.same("26: mended", desk.notices(), 2);
        desk.deny(1, 0, 9);
        Check.same("26: denied", desk.notices(), 3);
        desk.takeBack(1, 1);
        desk.go(48);
        Check.same("26: those over count too", desk.notices(), 3);
        Check.same("25: still", desk.boards(), 2);
        Check.same("24: 48", desk.hour(), 48);
    }

    private static void cellAnew() {
        FerroDesk desk = new FerroDesk();
        Check.refuses("27: none", desk, IndexOutOfBoundsException.class,
                on -> on.cellAnew(0, 0, 0));
        desk.setSun(20);
        desk.addBoard(0, 200);
        desk.addBoard(1, 200);
        int[] pictures = {0x0F0F0F0F, 0x7, 0x80808080, -1, 1 << 31};
        for (int number = 0; number < pictures.length; number++) {
            desk.post(number, pictures[number], 2 * number, 2 * number + 5);
            desk.queue(number, 0);
        }
        for (int i = 0; i < 14; i++) {
            for (int cell = 0; cell < 32; cell++) {
                int column = cell % 8;
                int row = cell / 8;
                Check.same("27: as it is shown", desk.cellAnew(0, column, row),
                        desk.cell(0, column, row));
                Check.same("27: by its changes", desk.cellAnew(0, column, row),
                        desk.wear(0, column, row) % 2);
                Check.same("27: the other board", desk.cellAnew(1, column, row), 0);
            }
            desk.go(1);
        }
        int[][] wrong = {{-1, 0, 0}, {2, 0, 0}, {0, -1, 0}, {0, 8, 0}, {0, 0, -1}, {0, 0, 4},
            {Integer.MAX_VALUE, 0, 0}, {0, 8, -1}, {0, Integer.MIN_VALUE, 0}};
        for (int[] row : wrong) {
            Check.refuses("27: cellAnew", desk, IndexOutOfBoundsException.class,
                    on -> on.cellAnew(row[0], row[1], row[2]));
        }
    }

    /** 39 notices of an hour each come between one that lasts: three changes for each of them. */
    private static void cellAnewOfManyChanges() {
        FerroDesk desk = new FerroDesk();
        desk.addBoard(0, 200);
        desk.setSun(20);
        desk.queue(desk.post(0, 0x11, 0, 2000), 0);
        for (int number = 1; number < 40; number++) {
            desk.queue(desk.post(5, 0x0700 << number % 3, 2 * number, 2 * number + 1), 0);
        }
        for (int hour = 1; hour <= 80; hour++) {
            desk.go(1);
            Check.same("23: by turns", desk.shows(0), hour % 2 == 0 && hour < 80 ? hour / 2 : 0);
            for (int cell = 0; cell < 32; cell++) {
                Check.same("27: behind many changes", desk.cellAnew(0, cell % 8, cell / 8),
                        desk.cell(0, cell % 8, cell / 8));
            }
        }
        Check.same("28: 2, and 39 times 2, 3, 3 and 2", desk.changes(), 2L + 39L * 10L);
    }

    private static void changesAndWorst() {
        FerroDesk desk = new FerroDesk();
        Check.refuses("29: none", desk, IndexOutOfBoundsException.class, on -> on.worst(0));
        desk.addBoard(0, 200);
        desk.addBoard(0, 200);
        desk.addBoard(1, 200);
        desk.post(0, 0xFF, 0, 3);
        desk.post(9, 0x1FF, 2, 9);
        desk.queue(0, 0);
        desk.queue(1, 0);
        desk.go(1);
        Check.same("28: two boards, eight cells", desk.changes(), 16L);
        Check.same("29: one each", desk.worst(1), 1);
        Check.same("29: none", desk.worst(2), 0);
        desk.go(1);
        Check.same("28: a cell more each", desk.changes(), 18L);
        desk.go(7);
        Check.same("28: wiped", desk.changes(), 36L);
        Check.same("29: two each", desk.worst(0), 2);
        Check.same("29: none still", desk.worst(2), 0);
        int[] wrong = {-1, 3, 6, Integer.MIN_VALUE, Integer.MAX_VALUE};
        for (int board : wrong) {
            Check.refuses("29: no board", desk, IndexOutOfBoundsException.class,
                    on -> on.worst(board));
        }
    }

    private static void checksum() {
        FerroDesk desk = new FerroDesk();
        Check.same("30: no boards", desk.checksum(), 0L);
        desk.addBoard(0, 200);
        Check.same("30: white", desk.checksum(), 0L);
        desk.queue(desk.post(0, 1 << 31, 0, 2), 0);
        desk.go(1);
        Check.same("30: the last cell, black, of the wear 1", desk.checksum(), 3L);
        desk.go(1);
        Check.same("30: the last cell, white, of the wear 2", desk.checksum(), 4L);
        desk.queue(desk.post(0, 1 << 30, 2, 99), 0);
        desk.go(1);
        Check.same("30: the last but one, black", desk.checksum(), 31L * 3 + 4);
        Check.same("30: unshifted", desk.shift(0), 0);
        desk.addBoard(3, 200);
        desk.queue(desk.post(0, 1 << 31, 3, 99), 3);
        desk.go(1);
        Check.same("30: the second board behind the first", desk.checksum(),
                power(32) * (31L * 3 + 4) + 3);
        desk.queue(desk.post(9, 1, 5, 6), 3);
        desk.go(1);
        Check.same("30: by rows", desk.checksum(),
                power(32) * (31L * 3 + 4) + power(31) * 3 + 4);
    }

    private static long power(int exponent) {
        long out = 1;
        for (int i = 0; i < exponent; i++) {
            out *= 31;
        }
        return out;
    }

    private static void shares() {
        FerroDesk desk = new FerroDesk();
        Check.refuses("31: none", desk, ArithmeticException.class, FerroDesk::shownShare);
        Check.refuses("32: none", desk, ArithmeticException.class, FerroDesk::meanWear);
        for (int district = 0; district < 3; district++) {
            desk.addBoard(district, 200);
        }
        Check.same("31: no board shows one", desk.shownShare(), 0.0f);
        Check.same("32: no wear", desk.meanWear(), 0.0);
        desk.queue(desk.post(0, 0x37, 0, 2), 1);
        desk.go(1);
        Check.same("31: a third, as a float", desk.shownShare(), 1.0f / 3.0f);
        Check.same("32: of all cells", desk.meanWear(), 5.0 / 96.0);
        desk.queue(desk.post(0, 1, 0, 3), 0);
        desk.queue(1, 2);
        desk.go(1);
        Check.same("31: two thirds, as a float", desk.shownShare(), 2.0f / 3.0f);
        Check.same("32: wiped ones too", desk.meanWear(), 12.0 / 96.0);
        desk.queue(desk.post(0, -1, 0, 9), 0);
        desk.queue(2, 1);
        desk.queue(2, 2);
        desk.go(1);
        Check.same("31: all", desk.shownShare(), 1.0f);
    }

    private static void isSound() {
        FerroDesk desk = new FerroDesk();
        Check.same("33: no boards", desk.isSound(), true);
        prepare(desk);
        for (int hour = 0; hour < 30; hour++) {
            Check.same("33: at " + hour, desk.isSound(), true);
            desk.pass(0, 1);
            if (hour == 3 || hour == 7) {
                desk.mend(desk.shows(0), 1 + hour);
                Check.same("33: mended", desk.isSound(), true);
            }
            if (hour == 5) {
                desk.takeBack(desk.shows(0), 6);
                Check.same("33: taken back", desk.isSound(), true);
            }
            desk.go(1);
        }
    }
}
