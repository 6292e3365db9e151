/** Promises 18 to 22: readers and rumours. */
public final class ReadersTest {
    public static void main(String[] args) {
        pass();
        readersAndReadIn();
        twoNoticesInAnHour();
        passInManyHours();
        suspects();
        suspectsByCell();
        suspectAt();
        Check.finish("ReadersTest");
    }

    private static void pass() {
        FerroDesk desk = new FerroDesk();
        Check.refuses("18: none", desk, IndexOutOfBoundsException.class, on -> on.pass(0, 1));
        desk.addBoard(0, 200);
        desk.addBoard(0, 200);
        Check.same("18: it shows none", desk.pass(0, 5), 0);
        desk.post(1, 7, 0, 9);
        desk.post(2, 7, 3, 4);
        desk.queue(0, 0);
        desk.queue(1, 0);
        desk.go(1);
        Check.same("18: those before read nothing", desk.pass(0, 1), 1);
        Check.same("18: with these", desk.pass(0, 999), 1000);
        Check.same("18: at that board", desk.pass(1, 2), 2);
        desk.go(1);
        Check.same("18: in all hours", desk.pass(0, 3), 1003);
        desk.go(1);
        Check.same("18: another notice", desk.pass(0, 4), 4);
        desk.go(1);
        Check.same("18: this one again", desk.pass(0, 5), 1008);
        desk.takeBack(0, 5);
        desk.go(1);
        Check.same("18: white again", desk.pass(0, 5), 0);
        int[] wrong = {0, -1, 1000, Integer.MIN_VALUE, Integer.MAX_VALUE};
        for (int people : wrong) {
            Check.refuses("18: people", desk, IllegalArgumentException.class,
                    on -> on.pass(0, people));
            Check.refuses("18: no board, people", desk, IndexOutOfBoundsException.class,
                    on -> on.pass(2, people));
        }
        Check.refuses("18: no board", desk, IndexOutOfBoundsException.class,
                on -> on.pass(-1, 1));
    }

    private static void readersAndReadIn() {
        FerroDesk desk = new FerroDesk();
        Check.refuses("19: none", desk, IndexOutOfBoundsException.class, on -> on.readers(0, 0));
        Check.refuses("20: none", desk, IndexOutOfBoundsException.class, on -> on.readIn(0, 0));
        desk.addBoard(1, 200);
        desk.addBoard(2, 200);
        desk.addBoard(1, 200);
        desk.post(1, 7, 0, 9);
        desk.post(1, 7, 0, 9);
        desk.queue(0, 1);
        desk.queue(0, 2);
        desk.go(1);
        desk.pass(0, 10);
        desk.pass(1, 20);
        desk.go(2);
        desk.pass(2, 40);
        desk.pass(0, 80);
        Check.same("19: of all boards of the district", desk.readers(0, 1), 130);
        Check.same("19: of the other district", desk.readers(0, 2), 20);
        Check.same("19: of none", desk.readers(0, 0), 0);
        Check.same("19: of the other notice", desk.readers(1, 1), 0);
        Check.same("20: at all boards", desk.readIn(0, 1), 30);
        Check.same("20: between", desk.readIn(0, 2), 0);
        Check.same("20: this hour", desk.readIn(0, 3), 120);
        Check.same("20: the other notice", desk.readIn(1, 1), 0);
        int[] hours = {0, 4, -1, 2000, 2001, Integer.MIN_VALUE, Integer.MAX_VALUE};
        for (int hour : hours) {
            Check.same("20: any hour", desk.readIn(0, hour), 0);
        }
        desk.mend(0, 9);
        desk.go(1);
        Check.same("19: it stays read when mended", desk.readers(0, 1), 130);
        Check.same("20: it stays read when mended", desk.readIn(0, 3), 120);
        int[] wrong = {-1, 4, Integer.MIN_VALUE, Integer.MAX_VALUE};
        for (int number : wrong) {
            Check.refuses("19: no district", desk, IllegalArgumentException.class,
                    on -> on.readers(0, number));
            Check.refuses("19: no notice, no district", desk, IndexOutOfBoundsException.class,
                    on -> on.readers(number, number));
            Check.refuses("20: no notice", desk, IndexOutOfBoundsException.class,
                    on -> on.readIn(number, 0));
        }
    }

    private static void twoNoticesInAnHour() {
        FerroDesk desk = new FerroDesk();
        for (int number = 0; number < 2; number++) {
            desk.addBoard(number, 200);
            desk.post(0, 1, 0, 9);
            desk.queue(number, number);
        }
        desk.go(2);
        desk.pass(1, 6);
        desk.pass(0, 4);
        desk.pass(1, 1);
        Check.same("20: of the one", desk.readIn(0, 2), 4);
        Check.same("20: of the other", desk.readIn(1, 2), 7);
        Check.same("19: of the one", desk.readers(0, 0), 4);
        Check.same("19: of the other", desk.readers(1, 1), 7);
        Check.same("19: not of the other there", desk.readers(1, 0), 0);
    }

    /** As many readings as an object's calls can make, each in an hour of its own. */
    private static void passInManyHours() {
        FerroDesk desk = new FerroDesk();
        desk.addBoard(0, 200);
        desk.queue(desk.post(0, 1, 0, 2000), 0);
        for (int hour = 1; hour <= 252; hour++) {
            desk.go(1);
            Check.same("18: so far", desk.pass(0, 2), 2 * hour);
        }
        Check.same("20: the first hour", desk.readIn(0, 1), 2);
        Check.same("20: the last hour", desk.readIn(0, 252), 2);
        Check.same("19: all hours", desk.readers(0, 0), 504);
    }

    private static void suspects() {
        FerroDesk desk = new FerroDesk();
        Check.same("21: no notices", desk.suspects(1, 0), 0);
        desk.setSun(20);
        desk.addBoard(0, 200);
        desk.addBoard(3, 200);
        int[] pictures = {7, 0x0503, -1, 0x80000001};
        for (int number = 0; number < pictures.length; number++) {
            desk.post(0, pictures[number], number + 1, number + 2);
            desk.queue(number, 0);
            desk.queue(number, 3);
        }
        for (int number = 0; number < pictures.length; number++) {
            desk.go(1);
            Check.same("21: it is shown", desk.shows(0), number);
            desk.pass(0, 1 + number);
        }
        Check.same("21: a part of it", desk.suspects(5, 0), 2);
        Check.same("21: each black cell of it", desk.suspects(7, 0), 2);
        Check.same("21: more than it", desk.suspects(15, 0), 1);
        Check.same("21: shifted", desk.suspects(7 << 5, 0), 2);
        Check.same("21: coming in at the first column", desk.suspects(0x83, 0), 2);
        Check.same("21: rows are shifted together", desk.suspects(0x0A06, 0), 2);
        Check.same("21: and not one by one", desk.suspects(0x0A03, 0), 1);
        Check.same("21: rows are not shifted", desk.suspects(0x0700, 0), 1);
        Check.same("21: one cell of the first row", desk.suspects(1 << 4, 0), 4);
        Check.same("21: one cell of the last row", desk.suspects(1 << 24, 0), 2);
        Check.same("21: the first and the last row", desk.suspects(0x01000002, 0), 2);
        Check.same("21: all cells", desk.suspects(-1, 0), 1);
        Check.same("21: read nowhere there", desk.suspects(1, 3), 0);
        desk.pass(1, 1);
        Check.same("21: read there", desk.suspects(1, 3), 1);
        int[] wrong = {-1, 4, Integer.MIN_VALUE, Integer.MAX_VALUE};
        for (int district : wrong) {
            Check.refuses("21: no district", desk, IllegalArgumentException.class,
                    on -> on.suspects(1, district));
            Check.refuses("22: no district", desk, IllegalArgumentException.class,
                    on -> on.suspectAt(1, district, 99));
        }
        Check.refuses("21: 0", desk, IllegalArgumentException.class, on -> on.suspects(0, 0));
        Check.refuses("22: 0", desk, IllegalArgumentException.class,
                on -> on.suspectAt(0, 0, 99));
    }

    /** A notice of one black cell can have made a rumour of any one cell of its row, and no other. */
    private static void suspectsByCell() {
        for (int black = 0; black < 32; black++) {
            FerroDesk desk = new FerroDesk();
            desk.addBoard(1, 200);
            desk.queue(desk.post(0, 1 << black, 0, 9), 1);
            desk.go(1);
            desk.pass(0, 1);
            for (int cell = 0; cell < 32; cell++) {
                int due = cell / 8 == black / 8 ? 1 : 0;
                Check.same("21: the cell " + black + ", the rumour " + cell,
                        desk.suspects(1 << cell, 1), due);
                Check.same("21: two cells", desk.suspects(1 << cell | 1 << (cell + 1) % 32, 1), 0);
            }
        }
    }

    private static void suspectAt() {
        FerroDesk desk = new FerroDesk();
        desk.addBoard(0, 200);
        desk.addBoard(1, 200);
        int[] people = {5, 9, 7, 5, 8, 9};
        for (int number = 0; number < people.length; number++) {
            desk.post(number, number == 4 ? 1 << 20 : 3, number + 1, number + 2);
            desk.queue(number, 0);
            desk.queue(number, 1);
        }
        for (int count : people) {
            desk.go(1);
            desk.pass(0, count);
            desk.pass(1, 20 - count);
        }
        int[] due = {1, 5, 2, 0, 3};
        int[] there = {0, 3, 2, 1, 5};
        Check.same("21: five", desk.suspects(6, 0), due.length);
        for (int index = 0; index < due.length; index++) {
            Check.same("22: by readers, then by numbers", desk.suspectAt(6, 0, index), due[index]);
            Check.same("22: by those of the district", desk.suspectAt(6, 1, index), there[index]);
        }
        Check.same("22: the only one", desk.suspectAt(1 << 16, 0, 0), 4);
        int[] wrong = {-1, 5, 6, 40, Integer.MIN_VALUE, Integer.MAX_VALUE};
        for (int index : wrong) {
            Check.refuses("22: index", desk, IndexOutOfBoundsException.class,
                    on -> on.suspectAt(6, 0, index));
        }
        Check.refuses("22: none there", desk, IndexOutOfBoundsException.class,
                on -> on.suspectAt(1, 2, 0));
    }
}
