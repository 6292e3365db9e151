/** What the Terms say of boards, of an hour, and of showing a notice, behind promises 7, 8, 9, 23. */
public final class TermsTest {
    public static void main(String[] args) {
        chargeForChangesAndWipe();
        chargeForTheCellsThatDiffer();
        leastGreatestWear();
        fewestChanges();
        fewestChangesOfTheLeastWear();
        wearAheadOfChanges();
        staysAsItIs();
        theSameCellsOfAnotherNotice();
        wipedAheadOfTheNext();
        firstThatCanBeShown();
        shiftByRows();
        eachShift();
        wearOfCellsThatStay();
        wornOut();
        wornOutInPart();
        chargeToTheLast();
        boardAddedLater();
        lastHours();
        Check.finish("TermsTest");
    }

    private static FerroDesk deskWith(int charge, int sun) {
        FerroDesk desk = new FerroDesk();
        desk.addBoard(0, charge);
        desk.setSun(sun);
        return desk;
    }

    private static int show(FerroDesk desk, int rank, int picture, int from, int till) {
        int notice = desk.post(rank, picture, from, till);
        desk.queue(notice, 0);
        return notice;
    }

    private static void chargeForChangesAndWipe() {
        FerroDesk low = deskWith(5, 0);
        show(low, 0, 7, 0, 9);
        low.go(1);
        Check.same("one short of three changes and three to wipe", low.shows(0), -1);
        Check.same("it sleeps", low.sleeps(0), true);
        Check.same("nothing is spent", low.charge(0), 5);
        FerroDesk enough = deskWith(6, 0);
        show(enough, 0, 7, 0, 2);
        enough.go(1);
        Check.same("three changes and three to wipe", enough.shows(0), 0);
        Check.same("it can be wiped with what is left", enough.isSound(), true);
        enough.go(1);
        Check.same("wiped", enough.shows(0), -1);
        Check.same("all is spent", enough.charge(0), 0);
        FerroDesk sunny = deskWith(4, 2);
        show(sunny, 0, 7, 0, 9);
        sunny.go(1);
        Check.same("the sun comes first", sunny.shows(0), 0);
    }

    private static void chargeForTheCellsThatDiffer() {
        FerroDesk desk = deskWith(9, 0);
        show(desk, 0, 0x0F, 0, 9);
        desk.go(1);
        Check.same("four of nine", desk.charge(0), 5);
        show(desk, 1, 0x1F, 0, 9);
        desk.go(1);
        Check.same("one to change, five to wipe, of five", desk.shows(0), 0);
        show(desk, 2, 0x07, 0, 9);
        desk.go(1);
        Check.same("one to change, three to wipe, of five", desk.shows(0), 2);
        Check.same("four are left", desk.charge(0), 4);
        Check.same("the fourth is white", Check.cellsOf(desk, 0), 7);
    }

    private static void leastGreatestWear() {
        FerroDesk desk = deskWith(200, 20);
        show(desk, 0, 0x03, 0, 2);
        show(desk, 0, 0x03, 2, 3);
        show(desk, 0, 0x03, 3, 4);
        show(desk, 0, 0x03, 4, 5);
        show(desk, 0, 0x03, 5, 6);
        int[] due = {0, 2, 4, 6, 0};
        for (int shift : due) {
            desk.go(1);
            Check.same("on to the cells that changed least", desk.shift(0), shift);
        }
        FerroDesk dear = deskWith(200, 20);
        show(dear, 0, 0x01, 0, 2);
        dear.go(2);
        show(dear, 0, 0x01, 2, 9);
        dear.go(1);
        Check.same("no cell gets worse than the worst", dear.worst(0), 2);
        Check.same("the least shift of the cells below", dear.shift(0), 1);
        dear.queue(dear.post(5, 0x09, 0, 9), 0);
        dear.go(1);
        Check.same("the cells: those of the columns 1 and 4", Check.cellsOf(dear, 0), 0x12);
        Check.same("the greatest wear of all cells decides, then the changes", dear.shift(0), 1);
        Check.same("it stays 2", dear.worst(0), 2);
    }

    private static void fewestChanges() {
        FerroDesk desk = deskWith(200, 0);
        show(desk, 0, 0x0C, 0, 9);
        desk.go(1);
        Check.same("as it is", desk.shift(0), 0);
        show(desk, 1, 0x07, 0, 9);
        desk.go(1);
        Check.same("of the wear 1: two of its cells stay", Check.cellsOf(desk, 0), 0x0E);
        Check.same("the least shift of those with one change", desk.shift(0), 1);
        Check.same("one change", desk.changes(), 3L);
    }

    /** The last row is worn more than what the first can come to: there only changes count. */
    private static void fewestChangesOfTheLeastWear() {
        FerroDesk desk = deskWith(200, 20);
        show(desk, 0, 0xFF000000, 1, 2);
        show(desk, 0, 0xFF000000, 3, 4);
        desk.go(4);
        Check.same("the last row's wear", desk.worst(0), 4);
        show(desk, 0, 0x0C, 0, 99);
        desk.go(1);
        Check.same("the least shift", desk.shift(0), 0);
        show(desk, 1, 0x07, 0, 99);
        desk.go(1);
        Check.same("one change instead of three, by the lesser shift", desk.shift(0), 1);
        Check.same("one cell more", Check.cellsOf(desk, 0), 0x0E);
        Check.same("32, 2 and 1", desk.changes(), 35L);
    }

    private static void wearAheadOfChanges() {
        FerroDesk desk = deskWith(200, 20);
        show(desk, 0, 0x82, 1, 2);
        desk.go(2);
        show(desk, 0, 0x01, 0, 99);
        desk.go(1);
        Check.same("between the worn cells", Check.cellsOf(desk, 0), 0x01);
        show(desk, 1, 0x03, 0, 99);
        desk.go(1);
        Check.same("three changes that spread the wear, not one", Check.cellsOf(desk, 0), 0x0C);
        Check.same("two columns", desk.shift(0), 2);
        Check.same("no worse", desk.worst(0), 2);
    }

    private static void staysAsItIs() {
        FerroDesk desk = deskWith(200, 2);
        show(desk, 0, 0x03, 0, 9);
        desk.go(1);
        int charge = desk.charge(0);
        desk.go(3);
        Check.same("no change", desk.changes(), 2L);
        Check.same("charged on, to the most", desk.charge(0), Math.min(200, charge + 6));
        show(desk, 0, 0x30, 0, 9);
        desk.go(1);
        Check.same("the lower number first", desk.shows(0), 0);
        show(desk, 1, 0x30, 0, 6);
        desk.go(1);
        Check.same("over at once", desk.shows(0), 0);
    }

    private static void theSameCellsOfAnotherNotice() {
        FerroDesk desk = deskWith(4, 0);
        show(desk, 0, 0x03, 0, 9);
        desk.go(1);
        show(desk, 1, 0x03, 0, 9);
        desk.go(1);
        Check.same("the higher one", desk.shows(0), 1);
        Check.same("without a change", desk.changes(), 2L);
        show(desk, 2, 0xC0, 0, 9);
        desk.go(1);
        Check.same("as it can be shifted", desk.shows(0), 2);
        Check.same("by two columns, beyond the last", desk.shift(0), 2);
        Check.same("without a change", desk.changes(), 2L);
    }

    private static void wipedAheadOfTheNext() {
        FerroDesk desk = deskWith(12, 0);
        show(desk, 0, 0xFF, 0, 1);
        show(desk, 0, 0x07, 0, 2);
        show(desk, 0, 0x07, 2, 9);
        desk.go(1);
        Check.same("the second", desk.shows(0), 1);
        desk.go(1);
        Check.same("three changes, three to wipe, three, and three to wipe", desk.shows(0), 2);
        Check.same("three are left", desk.charge(0), 3);
        Check.same("nine changes", desk.changes(), 9L);
        FerroDesk low = deskWith(11, 0);
        show(low, 0, 0x07, 0, 2);
        show(low, 0, 0x07, 2, 9);
        low.go(2);
        Check.same("it is wiped though the same cells are due", low.shows(0), -1);
        Check.same("and sleeps", low.sleeps(0), true);
        Check.same("five are left", low.charge(0), 5);
    }

    private static void firstThatCanBeShown() {
        FerroDesk desk = deskWith(10, 0);
        show(desk, 0, 0x01, 0, 9);
        show(desk, 3, 0x7F, 0, 9);
        show(desk, 2, 0x1F, 0, 9);
        show(desk, 1, 0x03, 0, 9);
        desk.go(1);
        Check.same("the second of the queue", desk.shows(0), 2);
        Check.same("one ahead could not be shown", desk.sleeps(0), true);
        desk.addBoard(0, 200);
        desk.addBoard(1, 200);
        desk.go(1);
        Check.same("each board for itself", desk.shows(1), 1);
        Check.same("which could show the first", desk.sleeps(1), false);
        Check.same("another district has no queue", desk.shows(2), -1);
    }

    private static void shiftByRows() {
        FerroDesk desk = deskWith(200, 20);
        show(desk, 0, 0x80818283, 0, 2);
        desk.go(2);
        show(desk, 0, 0x80818283, 2, 9);
        desk.go(1);
        Check.same("beside the worn ones", desk.shift(0), 3);
        Check.same("each row for itself", Check.cellsOf(desk, 0), 0x040C141C);
    }

    /** Dark notices of an hour each: 60 changes wear every cell out, and the 31st can't be shown. */
    private static void wornOut() {
        FerroDesk desk = deskWith(200, 20);
        for (int number = 0; number < 32; number++) {
            show(desk, 0, -1, 1 + 4 * number, 2 + 4 * number);
        }
        for (int number = 0; number < 30; number++) {
            desk.go(1);
            Check.same("shown", desk.shows(0), number);
            Check.same("once more", desk.worst(0), 2 * number + 1);
            Check.same("awake", desk.sleeps(0), false);
            Check.same("each cell can change once more", desk.isSound(), true);
            desk.go(3);
        }
        Check.same("worn out", desk.worst(0), 60);
        Check.same("each cell", desk.meanWear(), 60.0);
        desk.go(1);
        Check.same("not shown", desk.shows(0), -1);
        Check.same("it sleeps", desk.sleeps(0), true);
        Check.same("sound", desk.isSound(), true);
        desk.go(1);
        Check.same("awake, with nothing due", desk.sleeps(0), false);
        Check.same("all changes", desk.changes(), 1920L);
        Check.same("written down", desk.cellAnew(0, 3, 3), 0);
    }

    /** A cell of the last column: each of the eight shifts in turn, then the first one again. */
    private static void eachShift() {
        FerroDesk desk = deskWith(200, 20);
        for (int number = 0; number < 9; number++) {
            show(desk, 0, 0x80808000, number + 1, number + 2);
        }
        int[] due = {0x80808000, 0x01010100, 0x02020200, 0x04040400, 0x08080800, 0x10101000,
            0x20202000, 0x40404000, 0x80808000};
        for (int number = 0; number < due.length; number++) {
            desk.go(1);
            Check.same("the notice", desk.shows(0), number);
            Check.same("the shift", desk.shift(0), number % 8);
            Check.same("in at the first column", Check.cellsOf(desk, 0), due[number]);
        }
        Check.same("each column's second change but one's", desk.worst(0), 3);
    }

    /** A cell that stays black does not wear: the dearest one stays, though more others change. */
    private static void wearOfCellsThatStay() {
        FerroDesk desk = deskWith(200, 20);
        show(desk, 0, 0xFF, 1, 2);
        show(desk, 0, 0x0301, 2, 9);
        desk.go(2);
        Check.same("unshifted", desk.shift(0), 0);
        Check.same("a cell of the first row, for the third time", desk.wear(0, 0, 0), 3);
        show(desk, 1, 0x3001, 3, 9);
        desk.go(1);
        Check.same("four changes, but not of that cell", Check.cellsOf(desk, 0), 0x3001);
        Check.same("it stays", desk.wear(0, 0, 0), 3);
        Check.same("the worst is still that", desk.worst(0), 3);
        Check.same("16, 3 and 4", desk.changes(), 23L);
    }

    /** Cells with 60 changes are passed over; the others of their row serve on, to the last. */
    private static void wornOutInPart() {
        FerroDesk desk = deskWith(200, 20);
        for (int number = 0; number < 29; number++) {
            show(desk, 0, 0xFF, 1 + 2 * number, 2 + 2 * number);
        }
        desk.go(48);
        desk.go(10);
        Check.same("58 changes each", desk.worst(0), 58);
        int[] pictures = {0x0F, 0x07, 0x1F, 0x81, 0x01, 0x0100, 0x0101};
        int[] cells = {0x0F, 0x70, 0, 0, 0x80, 0x0100, 0};
        int[] shifts = {0, 4, 0, 0, 7, 0, 0};
        for (int i = 0; i < pictures.length; i++) {
            int number = show(desk, 0, pictures[i], 59 + 2 * i, 60 + 2 * i);
            desk.go(1);
            boolean can = cells[i] != 0;
            Check.same("what can be shown of " + i, desk.shows(0), can ? number : -1);
            Check.same("by cells that can change of " + i, Check.cellsOf(desk, 0), cells[i]);
            Check.same("the shift of " + i, desk.shift(0), shifts[i]);
            Check.same("for want of cells: " + i, desk.sleeps(0), !can);
            Check.same("sound with " + i, desk.isSound(), true);
            desk.go(1);
        }
        for (int column = 0; column < 8; column++) {
            Check.same("60, and never more", desk.wear(0, column, 0), 60);
        }
        Check.same("the second row", desk.wear(0, 0, 1), 2);
        Check.same("charge was not wanting", desk.charge(0), 200);
    }

    /** Just enough to wipe is enough, hour by hour, and one less is not. */
    private static void chargeToTheLast() {
        FerroDesk desk = deskWith(0, 1);
        show(desk, 0, 0x01, 0, 9);
        desk.go(1);
        Check.same("one to change, none to wipe", desk.shows(0), -1);
        Check.same("it sleeps", desk.sleeps(0), true);
        desk.go(1);
        Check.same("one to change, one to wipe", desk.shows(0), 0);
        Check.same("one is left", desk.charge(0), 1);
        desk.setSun(0);
        show(desk, 1, 0x03, 0, 9);
        desk.go(1);
        Check.same("one to change, two to wipe, of one", desk.shows(0), 0);
        desk.setSun(1);
        desk.go(1);
        Check.same("of two", desk.shows(0), 0);
        desk.go(1);
        Check.same("of three", desk.shows(0), 1);
        Check.same("the cells", Check.cellsOf(desk, 0), 0x03);
        Check.same("two are left", desk.charge(0), 2);
        desk.setSun(0);
        desk.takeBack(0, 6);
        desk.takeBack(1, 6);
        desk.go(1);
        Check.same("wiped by the last of it", desk.charge(0), 0);
        Check.same("white", Check.cellsOf(desk, 0), 0);
    }

    private static void boardAddedLater() {
        FerroDesk desk = deskWith(200, 2);
        show(desk, 0, 0x03, 0, 2000);
        desk.go(48);
        Check.same("it comes", desk.addBoard(0, 10), 1);
        Check.same("and shows nothing in this hour", desk.shows(1), -1);
        Check.same("what is told is its charge", desk.charge(1), 10);
        Check.same("nor is it asleep", desk.sleeps(1), false);
        desk.go(1);
        Check.same("in the next one it shows", desk.shows(1), 0);
        Check.same("charged once", desk.charge(1), 10);
        Check.same("the first one's wear is its own", desk.wear(1, 0, 0), 1);
    }

    /** The hour 2000 is of no notice: none can be shown then, or come from now on. */
    private static void lastHours() {
        FerroDesk desk = deskWith(200, 20);
        for (int i = 0; i < 41; i++) {
            desk.go(48);
        }
        desk.go(30);
        int notice = show(desk, 0, 0x03, 1999, 2000);
        int other = show(desk, 1, 0x03, 1998, 1999);
        desk.go(1);
        Check.same("1999: shown", desk.shows(0), notice);
        Check.same("over", desk.isDue(other), false);
        Check.same("due", desk.isDue(notice), true);
        Check.same("read", desk.pass(0, 1), 1);
        int mended = desk.mend(notice, 0x07);
        int denial = desk.deny(0x03, 0, 2000);
        Check.same("the last hour of both", desk.isDue(mended) && desk.isDue(denial), true);
        Check.same("2000", desk.go(1), 2000);
        Check.same("2000: none", desk.shows(0), -1);
        Check.same("the queue is empty", desk.queued(0), 0);
        Check.refuses("no notice goes on", desk, IllegalArgumentException.class,
                on -> on.takeBack(denial, 2000));
        Check.refuses("none can be mended", desk, UnsupportedOperationException.class,
                on -> on.mend(denial, 0x03));
        Check.same("one can still be taken", desk.post(0, 1, 1999, 2000), denial + 1);
        Check.same("read before", desk.readIn(notice, 1999), 1);
        Check.same("nobody reads a white board", desk.pass(0, 9), 0);
    }
}
