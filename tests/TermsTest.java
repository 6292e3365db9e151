/** What the Terms say of boards, of an hour, and of showing a notice, behind promises 7, 8, 9, 23. */
public final class TermsTest {
    public static void main(String[] args) {
        chargeForChangesAndWipe();
        chargeForTheCellsThatDiffer();
        leastGreatestWear();
        fewestChanges();
        fewestChangesOfTheLeastWear();
        wearAheadOfChanges();
        staysAsItIs();
        theSameCellsOfAnotherNotice();
        wipedAheadOfTheNext();
        firstThatCanBeShown();
        shiftByRows();
        wornOut();
        Check.finish("TermsTest");
    }

    private static FerroDesk deskWith(int charge, int sun) {
        FerroDesk desk = new FerroDesk();
        desk.addBoard(0, charge);
        desk.setSun(sun);
        return desk;
    }

    private static int show(FerroDesk desk, int rank, int picture, int from, int till) {
        int notice = desk.post(rank, picture, from, till);
        desk.queue(notice, 0);
        return notice;
    }

    private static void chargeForChangesAndWipe() {
        FerroDesk low = deskWith(5, 0);
        show(low, 0, 7, 0, 9);
        low.go(1);
        Check.same("one short of three changes and three to wipe", low.shows(0), -1);
        Check.same("it sleeps", low.sleeps(0), true);
        Check.same("nothing is spent", low.charge(0), 5);
        FerroDesk enough = deskWith(6, 0);
        show(enough, 0, 7, 0, 2);
        enough.go(1);
        Check.same("three changes and three to wipe", enough.shows(0), 0);
        Check.same("it can be wiped with what is left", enough.isSound(), true);
        enough.go(1);
        Check.same("wiped", enough.shows(0), -1);
        Check.same("all is spent", enough.charge(0), 0);
        FerroDesk sunny = deskWith(4, 2);
        show(sunny, 0, 7, 0, 9);
        sunny.go(1);
        Check.same("the sun comes first", sunny.shows(0), 0);
    }

    private static void chargeForTheCellsThatDiffer() {
        FerroDesk desk = deskWith(9, 0);
        show(desk, 0, 0x0F, 0, 9);
        desk.go(1);
        Check.same("four of nine", desk.charge(0), 5);
        show(desk, 1, 0x1F, 0, 9);
        desk.go(1);
        Check.same("one to change, five to wipe, of five", desk.shows(0), 0);
        show(desk, 2, 0x07, 0, 9);
        desk.go(1);
        Check.same("one to change, three to wipe, of five", desk.shows(0), 2);
        Check.same("four are left", desk.charge(0), 4);
        Check.same("the fourth is white", Check.cellsOf(desk, 0), 7);
    }

    private static void leastGreatestWear() {
        FerroDesk desk = deskWith(200, 20);
        show(desk, 0, 0x03, 0, 2);
        show(desk, 0, 0x03, 2, 3);
        show(desk, 0, 0x03, 3, 4);
        show(desk, 0, 0x03, 4, 5);
        show(desk, 0, 0x03, 5, 6);
        int[] due = {0, 2, 4, 6, 0};
        for (int shift : due) {
            desk.go(1);
            Check.same("on to the cells that changed least", desk.shift(0), shift);
        }
        FerroDesk dear = deskWith(200, 20);
        show(dear, 0, 0x01, 0, 2);
        dear.go(2);
        show(dear, 0, 0x01, 2, 9);
        dear.go(1);
        Check.same("no cell gets worse than the worst", dear.worst(0), 2);
        Check.same("the least shift of the cells below", dear.shift(0), 1);
        dear.queue(dear.post(5, 0x09, 0, 9), 0);
        dear.go(1);
        Check.same("the cells: those of the columns 1 and 4", Check.cellsOf(dear, 0), 0x12);
        Check.same("the greatest wear of all cells decides, then the changes", dear.shift(0), 1);
        Check.same("it stays 2", dear.worst(0), 2);
    }

    private static void fewestChanges() {
        FerroDesk desk = deskWith(200, 0);
        show(desk, 0, 0x0C, 0, 9);
        desk.go(1);
        Check.same("as it is", desk.shift(0), 0);
        show(desk, 1, 0x07, 0, 9);
        desk.go(1);
        Check.same("of the wear 1: two of its cells stay", Check.cellsOf(desk, 0), 0x0E);
        Check.same("the least shift of those with one change", desk.shift(0), 1);
        Check.same("one change", desk.changes(), 3L);
    }

    /** The last row is worn more than what the first can come to: there only changes count. */
    private static void fewestChangesOfTheLeastWear() {
        FerroDesk desk = deskWith(200, 20);
        show(desk, 0, 0xFF000000, 1, 2);
        show(desk, 0, 0xFF000000, 3, 4);
        desk.go(4);
        Check.same("the last row's wear", desk.worst(0), 4);
        show(desk, 0, 0x0C, 0, 99);
        desk.go(1);
        Check.same("the least shift", desk.shift(0), 0);
        show(desk, 1, 0x07, 0, 99);
        desk.go(1);
        Check.same("one change instead of three, by the lesser shift", desk.shift(0), 1);
        Check.same("one cell more", Check.cellsOf(desk, 0), 0x0E);
        Check.same("32, 2 and 1", desk.changes(), 35L);
    }

    private static void wearAheadOfChanges() {
        FerroDesk desk = deskWith(200, 20);
        show(desk, 0, 0x82, 1, 2);
        desk.go(2);
        show(desk, 0, 0x01, 0, 99);
        desk.go(1);
        Check.same("between the worn cells", Check.cellsOf(desk, 0), 0x01);
        show(desk, 1, 0x03, 0, 99);
        desk.go(1);
        Check.same("three changes that spread the wear, not one", Check.cellsOf(desk, 0), 0x0C);
        Check.same("two columns", desk.shift(0), 2);
        Check.same("no worse", desk.worst(0), 2);
    }

    private static void staysAsItIs() {
        FerroDesk desk = deskWith(200, 2);
        show(desk, 0, 0x03, 0, 9);
        desk.go(1);
        int charge = desk.charge(0);
        desk.go(3);
        Check.same("no change", desk.changes(), 2L);
        Check.same("charged on, to the most", desk.charge(0), Math.min(200, charge + 6));
        show(desk, 0, 0x30, 0, 9);
        desk.go(1);
        Check.same("the lower number first", desk.shows(0), 0);
        show(desk, 1, 0x30, 0, 6);
        desk.go(1);
        Check.same("over at once", desk.shows(0), 0);
    }

    private static void theSameCellsOfAnotherNotice() {
        FerroDesk desk = deskWith(4, 0);
        show(desk, 0, 0x03, 0, 9);
        desk.go(1);
        show(desk, 1, 0x03, 0, 9);
        desk.go(1);
        Check.same("the higher one", desk.shows(0), 1);
        Check.same("without a change", desk.changes(), 2L);
        show(desk, 2, 0xC0, 0, 9);
        desk.go(1);
        Check.same("as it can be shifted", desk.shows(0), 2);
        Check.same("by two columns, beyond the last", desk.shift(0), 2);
        Check.same("without a change", desk.changes(), 2L);
    }

    private static void wipedAheadOfTheNext() {
        FerroDesk desk = deskWith(12, 0);
        show(desk, 0, 0xFF, 0, 1);
        show(desk, 0, 0x07, 0, 2);
        show(desk, 0, 0x07, 2, 9);
        desk.go(1);
        Check.same("the second", desk.shows(0), 1);
        desk.go(1);
        Check.same("three changes, three to wipe, three, and three to wipe", desk.shows(0), 2);
        Check.same("three are left", desk.charge(0), 3);
        Check.same("nine changes", desk.changes(), 9L);
        FerroDesk low = deskWith(11, 0);
        show(low, 0, 0x07, 0, 2);
        show(low, 0, 0x07, 2, 9);
        low.go(2);
        Check.same("it is wiped though the same cells are due", low.shows(0), -1);
        Check.same("and sleeps", low.sleeps(0), true);
        Check.same("five are left", low.charge(0), 5);
    }

    private static void firstThatCanBeShown() {
        FerroDesk desk = deskWith(10, 0);
        show(desk, 0, 0x01, 0, 9);
        show(desk, 3, 0x7F, 0, 9);
        show(desk, 2, 0x1F, 0, 9);
        show(desk, 1, 0x03, 0, 9);
        desk.go(1);
        Check.same("the second of the queue", desk.shows(0), 2);
        Check.same("one ahead could not be shown", desk.sleeps(0), true);
        desk.addBoard(0, 200);
        desk.addBoard(1, 200);
        desk.go(1);
        Check.same("each board for itself", desk.shows(1), 1);
        Check.same("which could show the first", desk.sleeps(1), false);
        Check.same("another district has no queue", desk.shows(2), -1);
    }

    private static void shiftByRows() {
        FerroDesk desk = deskWith(200, 20);
        show(desk, 0, 0x80818283, 0, 2);
        desk.go(2);
        show(desk, 0, 0x80818283, 2, 9);
        desk.go(1);
        Check.same("beside the worn ones", desk.shift(0), 3);
        Check.same("each row for itself", Check.cellsOf(desk, 0), 0x040C141C);
    }

    /** Dark notices of an hour each: 60 changes wear every cell out, and the 31st can't be shown. */
    private static void wornOut() {
        FerroDesk desk = deskWith(200, 20);
        for (int number = 0; number < 32; number++) {
            show(desk, 0, -1, 1 + 4 * number, 2 + 4 * number);
        }
        for (int number = 0; number < 30; number++) {
            desk.go(1);
            Check.same("shown", desk.shows(0), number);
            Check.same("once more", desk.worst(0), 2 * number + 1);
            Check.same("awake", desk.sleeps(0), false);
            Check.same("each cell can change once more", desk.isSound(), true);
            desk.go(3);
        }
        Check.same("worn out", desk.worst(0), 60);
        Check.same("each cell", desk.meanWear(), 60.0);
        desk.go(1);
        Check.same("not shown", desk.shows(0), -1);
        Check.same("it sleeps", desk.sleeps(0), true);
        Check.same("sound", desk.isSound(), true);
        desk.go(1);
        Check.same("awake, with nothing due", desk.sleeps(0), false);
        Check.same("all changes", desk.changes(), 1920L);
        Check.same("written down", desk.cellAnew(0, 3, 3), 0);
    }
}
