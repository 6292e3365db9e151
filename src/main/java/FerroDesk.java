/**
 * A desk for boards that keep pictures without power: notices in queues of districts by rank,
 * cells that wear by changing, shifts that spread the wear, charge by the sun, notices taken back
 * or mended where they were read, readers by hours, and rumours with those who can have made them.
 */
public final class FerroDesk {

    private static final int COLUMNS = 8;
    private static final int ROWS = 4;
    private static final int CELLS = COLUMNS * ROWS;
    private static final int DISTRICTS = 4;
    private static final int MOST_BOARDS = 6;
    private static final int MOST_NOTICES = 40;
    private static final int MOST_CHARGE = 200;
    private static final int MOST_SUN = 20;
    private static final int MOST_WEAR = 60;
    private static final int MOST_PEOPLE = 999;
    private static final int MOST_HOURS_AT_ONCE = 48;
    private static final int LAST_HOUR = 2000;
    private static final int HIGHEST_POSTED_RANK = 9;
    private static final int HIGHEST_RANK = 10;
    /** An object is used for 512 calls: it can't write down more readings than these. */
    private static final int MOST_READINGS = 512;
    private static final int NONE = -1;
    private static final int ALL_CELLS = -1;
    private static final int WHOLE_ROW = 255;
    /** A row's bits times this stand in every row. */
    private static final int IN_EVERY_ROW = 0x01010101;

    private final Board[] boards = new Board[MOST_BOARDS];
    private int boardCount = 0;
    private final Notice[] notices = new Notice[MOST_NOTICES];
    /** The same notices: those taken come first, by falling rank, then by number. */
    private final Notice[] ranked = new Notice[MOST_NOTICES];
    private int noticeCount = 0;
    private final Readings readings = new Readings();
    private int sun = 2;
    private int hour = 0;

    /** Creates a desk without boards and notices, at the hour 0. */
    public FerroDesk() {
        for (int number = 0; number < MOST_BOARDS; number++) {
            boards[number] = new Board();
        }
        for (int number = 0; number < MOST_NOTICES; number++) {
            Notice blank = new Notice(number);
            notices[number] = blank;
            ranked[number] = blank;
        }
    }

    // ---- boards and power

    /** Adds a board to a district, which shows nothing, and returns its number. */
    public int addBoard(int district, int charge)
            throws IllegalArgumentException, IllegalStateException {
        checkDistrict(district);
        if (charge < 0 || charge > MOST_CHARGE) {
            throw new IllegalArgumentException("the charge is not 0 to 200");
        }
        if (boardCount >= MOST_BOARDS) {
            throw new IllegalStateException("there are 6 boards");
        }
        boards[boardCount].settle(district, charge);
        boardCount++;
        return boardCount - 1;
    }

    /** Sets what each board is charged by in an hour, and returns what it was before. */
    public int setSun(int sun) throws IllegalArgumentException {
        if (sun < 0 || sun > MOST_SUN) {
            throw new IllegalArgumentException("the sun is not 0 to 20");
        }
        int before = this.sun;
        this.sun = sun;
        return before;
    }

    /** Returns the charge of a board. */
    public int charge(int board) throws IndexOutOfBoundsException {
        return boardAt(board).charge;
    }

    /** Returns what a cell of a board shows: 0 white, 1 black. */
    public int cell(int board, int column, int row) throws IndexOutOfBoundsException {
        Board asked = boardAt(board);
        return bitOf(asked.black, cellAt(column, row));
    }

    /** Returns how often a cell of a board has changed. */
    public int wear(int board, int column, int row) throws IndexOutOfBoundsException {
        Board asked = boardAt(board);
        return asked.wearOf(cellAt(column, row));
    }

    /** Returns which notice a board shows, -1 for none. */
    public int shows(int board) throws IndexOutOfBoundsException {
        Notice shown = boardAt(board).shown;
        return shown == null ? NONE : shown.number;
    }

    /** Returns by how many columns a board shows its notice shifted, 0 without a notice. */
    public int shift(int board) throws IndexOutOfBoundsException {
        return boardAt(board).shiftedBy;
    }

    /** Returns whether a board did not change in the last hour for want of charge or of cells. */
    public boolean sleeps(int board) throws IndexOutOfBoundsException {
        return boardAt(board).asleep;
    }

    // ---- notices

    /** Takes a notice, for no district yet, and returns its number. */
    public int post(int rank, int picture, int from, int till)
            throws IllegalArgumentException, IllegalStateException {
        if (rank < 0 || rank > HIGHEST_POSTED_RANK) {
            throw new IllegalArgumentException("the rank is not 0 to 9");
        }
        if (picture == 0) {
            throw new IllegalArgumentException("the picture is 0");
        }
        if (from < 0 || from >= till || till > LAST_HOUR) {
            throw new IllegalArgumentException("the hours are not 0 to 2000, the first one ahead");
        }
        return take(rank, picture, from, till).number;
    }

    /** Puts a notice into the queue of a district, and returns whether it was not there. */
    public boolean queue(int notice, int district)
            throws IndexOutOfBoundsException, IllegalArgumentException, UnsupportedOperationException {
        Notice asked = noticeAt(notice);
        checkDistrict(district);
        if (asked.mended || asked.takenBack) {
            throw new UnsupportedOperationException("it was mended or taken back");
        }
        boolean wasThere = asked.isQueuedIn(district, hour);
        asked.putInto(district);
        return !wasThere;
    }

    /** Takes a notice back from an hour on, and returns how many boards show it now. */
    public int takeBack(int notice, int hour)
            throws IndexOutOfBoundsException, IllegalArgumentException, UnsupportedOperationException {
        Notice asked = noticeAt(notice);
        if (hour <= this.hour || hour > asked.till) {
            throw new IllegalArgumentException("the hour is not later, or later than the one told");
        }
        if (asked.mended) {
            throw new UnsupportedOperationException("it was mended");
        }
        asked.takenBack = true;
        asked.till = hour;
        return boardsThatShow(asked);
    }

    /** Mends a notice where it was read, and returns the number of the other one. */
    public int mend(int notice, int picture)
            throws IndexOutOfBoundsException, IllegalArgumentException,
            UnsupportedOperationException, IllegalStateException {
        Notice wrong = noticeAt(notice);
        if (picture == 0 || picture == wrong.picture) {
            throw new IllegalArgumentException("the picture is 0, or the same");
        }
        if (wrong.mended || wrong.isOver(hour)) {
            throw new UnsupportedOperationException("it was mended, or its hours are over");
        }
        int rank = Math.min(wrong.rank + 1, HIGHEST_RANK);
        Notice right = take(rank, picture, Math.max(hour, wrong.from), wrong.till);
        queueWhereRead(right, wrong);
        wrong.mended = true;
        wrong.till = hour + 1;
        return right.number;
    }

    /** Denies a rumour in a district from now on, and returns the number of the denial. */
    public int deny(int picture, int district, int till)
            throws IllegalArgumentException, IllegalStateException {
        checkDistrict(district);
        if (picture == 0 || picture == ALL_CELLS) {
            throw new IllegalArgumentException("the rumour is 0 or all cells");
        }
        if (till <= hour || till > LAST_HOUR) {
            throw new IllegalArgumentException("the hour is not later than now, or later than 2000");
        }
        Notice denial = take(HIGHEST_RANK, ~picture, hour, till);
        denial.putInto(district);
        return denial.number;
    }

    /** Returns how many notices are in the queue of a district whose hours are not over. */
    public int queued(int district) throws IllegalArgumentException {
        checkDistrict(district);
        int count = 0;
        for (int number = 0; number < noticeCount; number++) {
            if (notices[number].isQueuedIn(district, hour)) {
                count++;
            }
        }
        return count;
    }

    /** Returns the number of a notice of a queue. */
    public int queuedAt(int district, int index)
            throws IllegalArgumentException, IndexOutOfBoundsException {
        checkDistrict(district);
        int ahead = 0;
        for (int place = 0; place < noticeCount; place++) {
            Notice notice = ranked[place];
            if (notice.isQueuedIn(district, hour)) {
                if (ahead == index) {
                    return notice.number;
                }
                ahead++;
            }
        }
        throw new IndexOutOfBoundsException("there is no such notice in the queue");
    }

    /** Returns whether this is an hour of a notice. */
    public boolean isDue(int notice) throws IndexOutOfBoundsException {
        return noticeAt(notice).isOf(hour);
    }

    // ---- readers and rumours

    /** Lets people pass a board, and returns how many have read there what it shows. */
    public int pass(int board, int people)
            throws IndexOutOfBoundsException, IllegalArgumentException {
        Notice shown = boardAt(board).shown;
        if (people < 1 || people > MOST_PEOPLE) {
            throw new IllegalArgumentException("the people are not 1 to 999");
        }
        if (shown == null) {
            return 0;
        }
        shown.readersAt[board] += people;
        readings.write(shown.number, hour, people);
        return shown.readersAt[board];
    }

    /** Returns how many have read a notice in a district. */
    public int readers(int notice, int district)
            throws IndexOutOfBoundsException, IllegalArgumentException {
        Notice asked = noticeAt(notice);
        checkDistrict(district);
        return readersIn(asked, district);
    }

    /** Returns how many have read a notice in an hour. */
    public int readIn(int notice, int hour) throws IndexOutOfBoundsException {
        return readings.peopleOf(noticeAt(notice).number, hour);
    }

    /** Returns how many notices read in a district can have made a rumour. */
    public int suspects(int picture, int district) throws IllegalArgumentException {
        checkRumour(picture, district);
        int count = 0;
        for (int number = 0; number < noticeCount; number++) {
            if (isSuspect(notices[number], picture, district)) {
                count++;
            }
        }
        return count;
    }

    /** Returns one of these, by falling numbers of readers there, then by numbers. */
    public int suspectAt(int picture, int district, int index)
            throws IllegalArgumentException, IndexOutOfBoundsException {
        checkRumour(picture, district);
        for (int number = 0; number < noticeCount; number++) {
            Notice notice = notices[number];
            if (isSuspect(notice, picture, district)
                    && suspectsAhead(notice, picture, district) == index) {
                return number;
            }
        }
        throw new IndexOutOfBoundsException("there is no such suspect");
    }

    // ---- hours and figures

    /** Lets hours go by, and returns the hour. */
    public int go(int hours) throws IllegalArgumentException, IllegalStateException {
        if (hours < 1 || hours > MOST_HOURS_AT_ONCE) {
            throw new IllegalArgumentException("the hours are not 1 to 48");
        }
        if (hour + hours > LAST_HOUR) {
            throw new IllegalStateException("the hour would be later than 2000");
        }
        for (int gone = 0; gone < hours; gone++) {
            hour++;
            for (int number = 0; number < boardCount; number++) {
                letHourComeTo(boards[number]);
            }
        }
        return hour;
    }

    /** Returns the hour. */
    public int hour() {
        return hour;
    }

    /** Returns the number of boards. */
    public int boards() {
        return boardCount;
    }

    /** Returns the number of notices. */
    public int notices() {
        return noticeCount;
    }

    /** Returns what a cell shows, found from all changes that were written down. */
    public int cellAnew(int board, int column, int row) throws IndexOutOfBoundsException {
        Board asked = boardAt(board);
        return bitOf(asked.blackAnew(), cellAt(column, row));
    }

    /** Returns how often cells have changed in all. */
    public long changes() {
        long sum = 0;
        for (int number = 0; number < boardCount; number++) {
            sum += boards[number].wearOfAll();
        }
        return sum;
    }

    /** Returns the greatest wear of a board. */
    public int worst(int board) throws IndexOutOfBoundsException {
        return boardAt(board).greatestWear;
    }

    /** Returns a sum over what all cells of all boards show, and over their wear. */
    public long checksum() {
        long sum = 0;
        for (int number = 0; number < boardCount; number++) {
            Board board = boards[number];
            for (int cell = 0; cell < CELLS; cell++) {
                sum = 31 * sum + bitOf(board.black, cell) + 2 * board.wearOf(cell);
            }
        }
        return sum;
    }

    /** Returns the share of the boards that show a notice. */
    public float shownShare() throws ArithmeticException {
        if (boardCount == 0) {
            throw new ArithmeticException("there are no boards");
        }
        int showing = 0;
        for (int number = 0; number < boardCount; number++) {
            if (boards[number].shown != null) {
                showing++;
            }
        }
        return (float) showing / (float) boardCount;
    }

    /** Returns the mean wear of all cells. */
    public double meanWear() throws ArithmeticException {
        if (boardCount == 0) {
            throw new ArithmeticException("there are no boards");
        }
        return (double) changes() / (double) (boardCount * CELLS);
    }

    /** Returns whether no board shows a notice outside of its hours, and all cells add up. */
    public boolean isSound() {
        for (int number = 0; number < boardCount; number++) {
            Board board = boards[number];
            boolean timely = board.shown == null || board.shown.isOf(hour);
            if (!timely || !board.canWipe() || board.black != board.blackAnew()) {
                return false;
            }
        }
        return true;
    }

    // ---- what the calls above share

    private Board boardAt(int number) {
        if (number < 0 || number >= boardCount) {
            throw new IndexOutOfBoundsException("there is no such board");
        }
        return boards[number];
    }

    private Notice noticeAt(int number) {
        if (number < 0 || number >= noticeCount) {
            throw new IndexOutOfBoundsException("there is no such notice");
        }
        return notices[number];
    }

    private static int cellAt(int column, int row) {
        if (column < 0 || column >= COLUMNS || row < 0 || row >= ROWS) {
            throw new IndexOutOfBoundsException("there is no such cell");
        }
        return COLUMNS * row + column;
    }

    private static int bitOf(int picture, int cell) {
        return picture >>> cell & 1;
    }

    private static void checkDistrict(int district) {
        if (district < 0 || district >= DISTRICTS) {
            throw new IllegalArgumentException("there is no such district");
        }
    }

    private static void checkRumour(int picture, int district) {
        checkDistrict(district);
        if (picture == 0) {
            throw new IllegalArgumentException("the rumour is 0");
        }
    }

    private Notice take(int rank, int picture, int from, int till) {
        if (noticeCount >= MOST_NOTICES) {
            throw new IllegalStateException("there are 40 notices");
        }
        Notice fresh = notices[noticeCount];
        fresh.fill(rank, picture, from, till);
        int place = noticeCount;
        while (place > 0 && ranked[place - 1].rank < rank) {
            ranked[place] = ranked[place - 1];
            place--;
        }
        ranked[place] = fresh;
        noticeCount++;
        return fresh;
    }

    private void queueWhereRead(Notice right, Notice wrong) {
        for (int district = 0; district < DISTRICTS; district++) {
            if (wrong.isQueuedIn(district, hour) && readersIn(wrong, district) > 0) {
                right.putInto(district);
            }
        }
    }

    private int boardsThatShow(Notice notice) {
        int count = 0;
        for (int number = 0; number < boardCount; number++) {
            if (boards[number].shown == notice) {
                count++;
            }
        }
        return count;
    }

    private int readersIn(Notice notice, int district) {
        int people = 0;
        for (int number = 0; number < boardCount; number++) {
            if (boards[number].district == district) {
                people += notice.readersAt[number];
            }
        }
        return people;
    }

    private boolean isSuspect(Notice notice, int rumour, int district) {
        return readersIn(notice, district) > 0 && notice.canHaveMade(rumour);
    }

    private int suspectsAhead(Notice notice, int rumour, int district) {
        int people = readersIn(notice, district);
        int ahead = 0;
        for (int number = 0; number < noticeCount; number++) {
            int others = readersIn(notices[number], district);
            boolean earlier = others > people || others == people && number < notice.number;
            if (earlier && isSuspect(notices[number], rumour, district)) {
                ahead++;
            }
        }
        return ahead;
    }

    private void letHourComeTo(Board board) {
        board.chargeBy(sun);
        board.asleep = false;
        if (board.shown != null && !board.shown.isOf(hour)) {
            board.wipe();
        }
        for (int place = 0; place < noticeCount; place++) {
            Notice notice = ranked[place];
            if (notice.isOf(hour) && notice.isQueuedIn(board.district, hour)) {
                if (board.takesUp(notice)) {
                    return;
                }
                board.asleep = true;
            }
        }
        board.wipe();
    }

    private static int shifted(int picture, int columns) {
        int notWrapped = (WHOLE_ROW << columns & WHOLE_ROW) * IN_EVERY_ROW;
        return picture << columns & notWrapped | picture >>> (COLUMNS - columns) & ~notWrapped;
    }

    /** A notice, blank until it is taken. */
    private static final class Notice {
        private final int number;
        private final int[] readersAt = new int[MOST_BOARDS];
        private int rank = 0;
        private int picture = 0;
        private int from = 0;
        private int till = 0;
        private boolean mended = false;
        private boolean takenBack = false;
        /** A bit for each district into whose queue it was put. */
        private int districts = 0;

        Notice(int number) {
            this.number = number;
        }

        void fill(int rank, int picture, int from, int till) {
            this.rank = rank;
            this.picture = picture;
            this.from = from;
            this.till = till;
        }

        boolean isOver(int hour) {
            return till <= hour;
        }

        boolean isOf(int hour) {
            return from <= hour && hour < till;
        }

        void putInto(int district) {
            districts |= 1 << district;
        }

        boolean isQueuedIn(int district, int hour) {
            return bitOf(districts, district) == 1 && !isOver(hour);
        }

        boolean canHaveMade(int rumour) {
            for (int columns = 0; columns < COLUMNS; columns++) {
                if ((rumour & ~shifted(picture, columns)) == 0) {
                    return true;
                }
            }
            return false;
        }
    }

    /** A board: what it shows, and what its cells and its charge still allow. */
    private static final class Board {
        private int district = 0;
        private int charge = 0;
        private Notice shown = null;
        private int shiftedBy = 0;
        private boolean asleep = false;
        private int black = 0;
        private final int[] wearByCell = new int[CELLS];
        private int greatestWear = 0;
        /** The cells of the greatest wear, and those that can't change any more. */
        private int mostWorn = ALL_CELLS;
        private int wornOut = 0;
        /** The cells that changed, time by time; wear allows no more times than these. */
        private final int[] changed = new int[CELLS * MOST_WEAR];
        private int timesChanged = 0;

        void settle(int district, int charge) {
            this.district = district;
            this.charge = charge;
        }

        void chargeBy(int sun) {
            charge = Math.min(charge + sun, MOST_CHARGE);
        }

        int wearOf(int cell) {
            return cell < 0 || cell >= CELLS ? 0 : wearByCell[cell];
        }

        int wearOfAll() {
            int sum = 0;
            for (int cell = 0; cell < CELLS; cell++) {
                sum += wearByCell[cell];
            }
            return sum;
        }

        int blackAnew() {
            int found = 0;
            for (int time = 0; time < timesChanged; time++) {
                found ^= changed[time];
            }
            return found;
        }

        /** By the wear of the cells itself: what is kept beside it is not to vouch for itself. */
        boolean canWipe() {
            for (int cell = 0; cell < CELLS; cell++) {
                if (bitOf(black, cell) == 1 && wearByCell[cell] >= MOST_WEAR) {
                    return false;
                }
            }
            return Integer.bitCount(black) <= charge;
        }

        void wipe() {
            change(black);
            shown = null;
            shiftedBy = 0;
        }

        /** Returns whether it shows the notice from now on, which it may have done already. */
        boolean takesUp(Notice notice) {
            if (shown == notice) {
                return true;
            }
            int columns = bestShift(notice.picture);
            if (columns == NONE) {
                return false;
            }
            change(black ^ shifted(notice.picture, columns));
            shown = notice;
            shiftedBy = columns;
            return true;
        }

        private int bestShift(int picture) {
            int best = NONE;
            int bestWear = 0;
            int bestChanges = 0;
            for (int columns = 0; columns < COLUMNS; columns++) {
                int aim = shifted(picture, columns);
                if (canTurnTo(aim)) {
                    int wear = greatestWearBehind(black ^ aim);
                    int changes = Integer.bitCount(black ^ aim);
                    if (best == NONE || wear < bestWear
                            || wear == bestWear && changes < bestChanges) {
                        best = columns;
                        bestWear = wear;
                        bestChanges = changes;
                    }
                }
            }
            return best;
        }

        /**
         * Whether it can change to a picture, and wipe it then. The changes of a white cell are
         * even, as is the most that it can bear: one that can turn black can be wiped too.
         */
        private boolean canTurnTo(int aim) {
            int differing = black ^ aim;
            return ((differing | aim) & wornOut) == 0
                    && Integer.bitCount(differing) + Integer.bitCount(aim) <= charge;
        }

        private int greatestWearBehind(int cells) {
            return (cells & mostWorn) == 0 ? greatestWear : greatestWear + 1;
        }

        private void change(int cells) {
            charge -= Integer.bitCount(cells);
            black ^= cells;
            if (cells != 0 && timesChanged < changed.length) {
                changed[timesChanged] = cells;
                timesChanged++;
            }
            for (int cell = 0; cell < CELLS; cell++) {
                if (bitOf(cells, cell) == 1) {
                    wearOut(cell);
                }
            }
        }

        private void wearOut(int cell) {
            if (cell < 0 || cell >= CELLS) {
                return;
            }
            wearByCell[cell]++;
            int wear = wearByCell[cell];
            int bit = 1 << cell;
            if (wear > greatestWear) {
                greatestWear = wear;
                mostWorn = 0;
            }
            if (wear == greatestWear) {
                mostWorn |= bit;
            }
            if (wear >= MOST_WEAR) {
                wornOut |= bit;
            }
        }
    }

    /** How many people read which notice in which hour. */
    private static final class Readings {
        private final int[] noticeOf = new int[MOST_READINGS];
        private final int[] hourOf = new int[MOST_READINGS];
        private final int[] people = new int[MOST_READINGS];
        private int count = 0;

        void write(int notice, int hour, int more) {
            int place = find(notice, hour);
            if (place == NONE && count < MOST_READINGS) {
                place = count;
                noticeOf[place] = notice;
                hourOf[place] = hour;
                count++;
            }
            if (place >= 0 && place < MOST_READINGS) {
                people[place] += more;
            }
        }

        int peopleOf(int notice, int hour) {
            int place = find(notice, hour);
            return place < 0 || place >= MOST_READINGS ? 0 : people[place];
        }

        private int find(int notice, int hour) {
            for (int place = 0; place < count; place++) {
                if (noticeOf[place] == notice && hourOf[place] == hour) {
                    return place;
                }
            }
            return NONE;
        }
    }
}
