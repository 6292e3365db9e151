import java.util.ArrayList;
import java.util.Comparator;
import java.util.List;
import java.util.Set;
import java.util.TreeSet;

/**
 * The document told a second time, as plainly as it can be and without any of FerroDesk's short
 * cuts: cells one by one, queues sorted anew, every reading kept. ModelTest holds the two together.
 */
public final class Model {
    private static final class Reading {
        final int board;
        final int hour;
        final int people;

        Reading(int board, int hour, int people) {
            this.board = board;
            this.hour = hour;
            this.people = people;
        }
    }

    private static final class Notice {
        int number;
        int rank;
        int picture;
        int from;
        int till;
        boolean mended;
        boolean takenBack;
        final Set<Integer> districts = new TreeSet<>();
        final List<Reading> readings = new ArrayList<>();
    }

    private static final class Board {
        int number;
        int district;
        int charge;
        Notice shown;
        int shift;
        boolean sleeps;
        boolean[][] black = new boolean[4][8];
        final int[][] wear = new int[4][8];
        final List<int[]> written = new ArrayList<>();
    }

    private final List<Board> boards = new ArrayList<>();
    private final List<Notice> notices = new ArrayList<>();
    private int sun = 2;
    private int hour = 0;

    public int addBoard(int district, int charge) {
        if (district < 0 || district > 3 || charge < 0 || charge > 200) {
            throw new IllegalArgumentException();
        }
        if (boards.size() == 6) {
            throw new IllegalStateException();
        }
        Board board = new Board();
        board.number = boards.size();
        board.district = district;
        board.charge = charge;
        boards.add(board);
        return board.number;
    }

    public int setSun(int sun) {
        if (sun < 0 || sun > 20) {
            throw new IllegalArgumentException();
        }
        int before = this.sun;
        this.sun = sun;
        return before;
    }

    public int charge(int board) {
        return board(board).charge;
    }

    public int cell(int board, int column, int row) {
        Board asked = board(board);
        checkCell(column, row);
        return asked.black[row][column] ? 1 : 0;
    }

    public int wear(int board, int column, int row) {
        Board asked = board(board);
        checkCell(column, row);
        return asked.wear[row][column];
    }

    public int shows(int board) {
        Board asked = board(board);
        return asked.shown == null ? -1 : asked.shown.number;
    }

    public int shift(int board) {
        return board(board).shift;
    }

    public boolean sleeps(int board) {
        return board(board).sleeps;
    }

    public int post(int rank, int picture, int from, int till) {
        boolean inTime = 0 <= from && from <= 2000 && 0 <= till && till <= 2000 && from < till;
        if (rank < 0 || rank > 9 || picture == 0 || !inTime) {
            throw new IllegalArgumentException();
        }
        if (notices.size() == 40) {
            throw new IllegalStateException();
        }
        return add(rank, picture, from, till).number;
    }

    public boolean queue(int notice, int district) {
        Notice asked = notice(notice);
        checkDistrict(district);
        if (asked.mended || asked.takenBack) {
            throw new UnsupportedOperationException();
        }
        boolean wasThere = queueOf(district).contains(asked);
        asked.districts.add(district);
        return !wasThere;
    }

    public int takeBack(int notice, int hour) {
        Notice asked = notice(notice);
        if (hour <= this.hour || hour > asked.till) {
            throw new IllegalArgumentException();
        }
        if (asked.mended) {
            throw new UnsupportedOperationException();
        }
        asked.takenBack = true;
        asked.till = hour;
        return (int) boards.stream().filter(board -> board.shown == asked).count();
    }

    public int mend(int notice, int picture) {
        Notice asked = notice(notice);
        if (picture == 0 || picture == asked.picture) {
            throw new IllegalArgumentException();
        }
        if (asked.mended || hour >= asked.till) {
            throw new UnsupportedOperationException();
        }
        if (notices.size() == 40) {
            throw new IllegalStateException();
        }
        int rank = asked.rank == 10 ? 10 : asked.rank + 1;
        int from = asked.from > hour ? asked.from : hour;
        Notice other = add(rank, picture, from, asked.till);
        for (int district : asked.districts) {
            if (readers(notice, district) > 0) {
                other.districts.add(district);
            }
        }
        asked.mended = true;
        asked.till = hour + 1;
        return other.number;
    }

    public int deny(int picture, int district, int till) {
        checkDistrict(district);
        if (picture == 0 || picture == -1 || till <= hour || till > 2000) {
            throw new IllegalArgumentException();
        }
        if (notices.size() == 40) {
            throw new IllegalStateException();
        }
        int denial = 0;
        for (int bit = 0; bit < 32; bit++) {
            if ((picture >> bit & 1) == 0) {
                denial |= 1 << bit;
            }
        }
        Notice notice = add(10, denial, hour, till);
        notice.districts.add(district);
        return notice.number;
    }

    public int queued(int district) {
        checkDistrict(district);
        return queueOf(district).size();
    }

    public int queuedAt(int district, int index) {
        checkDistrict(district);
        return at(queueOf(district), index).number;
    }

    public boolean isDue(int notice) {
        return isDue(notice(notice));
    }

    public int pass(int board, int people) {
        Board passed = board(board);
        if (people < 1 || people > 999) {
            throw new IllegalArgumentException();
        }
        if (passed.shown == null) {
            return 0;
        }
        passed.shown.readings.add(new Reading(board, hour, people));
        return passed.shown.readings.stream().filter(reading -> reading.board == board)
                .mapToInt(reading -> reading.people).sum();
    }

    public int readers(int notice, int district) {
        Notice asked = notice(notice);
        checkDistrict(district);
        return asked.readings.stream()
                .filter(reading -> boards.get(reading.board).district == district)
                .mapToInt(reading -> reading.people).sum();
    }

    public int readIn(int notice, int hour) {
        return notice(notice).readings.stream().filter(reading -> reading.hour == hour)
                .mapToInt(reading -> reading.people).sum();
    }

    public int suspects(int picture, int district) {
        return suspectsOf(picture, district).size();
    }

    public int suspectAt(int picture, int district, int index) {
        return at(suspectsOf(picture, district), index).number;
    }

    public int go(int hours) {
        if (hours < 1 || hours > 48) {
            throw new IllegalArgumentException();
        }
        if (hour + hours > 2000) {
            throw new IllegalStateException();
        }
        for (int i = 0; i < hours; i++) {
            hour++;
            boards.forEach(this::oneHour);
        }
        return hour;
    }

    public int hour() {
        return hour;
    }

    public int boards() {
        return boards.size();
    }

    public int notices() {
        return notices.size();
    }

    public int cellAnew(int board, int column, int row) {
        Board asked = board(board);
        checkCell(column, row);
        long times = asked.written.stream()
                .filter(change -> change[0] == row && change[1] == column).count();
        return (int) (times % 2);
    }

    public long changes() {
        return boards.stream().mapToLong(board -> board.written.size()).sum();
    }

    public int worst(int board) {
        return greatest(board(board).wear);
    }

    public long checksum() {
        long sum = 0;
        for (Board board : boards) {
            for (int row = 0; row < 4; row++) {
                for (int column = 0; column < 8; column++) {
                    sum = sum * 31 + (board.black[row][column] ? 1 : 0)
                            + 2L * board.wear[row][column];
                }
            }
        }
        return sum;
    }

    public float shownShare() {
        if (boards.isEmpty()) {
            throw new ArithmeticException();
        }
        float showing = boards.stream().filter(board -> board.shown != null).count();
        return showing / (float) boards.size();
    }

    public double meanWear() {
        if (boards.isEmpty()) {
            throw new ArithmeticException();
        }
        double sum = changes();
        return sum / (32.0 * boards.size());
    }

    public boolean isSound() {
        return true;
    }

    private Board board(int number) {
        return at(boards, number);
    }

    private Notice notice(int number) {
        return at(notices, number);
    }

    private static <T> T at(List<T> list, int index) {
        if (index < 0 || index >= list.size()) {
            throw new IndexOutOfBoundsException();
        }
        return list.get(index);
    }

    private static void checkCell(int column, int row) {
        if (column < 0 || column > 7 || row < 0 || row > 3) {
            throw new IndexOutOfBoundsException();
        }
    }

    private static void checkDistrict(int district) {
        if (district < 0 || district > 3) {
            throw new IllegalArgumentException();
        }
    }

    private Notice add(int rank, int picture, int from, int till) {
        Notice notice = new Notice();
        notice.number = notices.size();
        notice.rank = rank;
        notice.picture = picture;
        notice.from = from;
        notice.till = till;
        notices.add(notice);
        return notice;
    }

    private boolean isDue(Notice notice) {
        return notice.from <= hour && hour < notice.till;
    }

    private List<Notice> queueOf(int district) {
        List<Notice> queue = new ArrayList<>();
        for (Notice notice : notices) {
            if (notice.districts.contains(district) && hour < notice.till) {
                queue.add(notice);
            }
        }
        queue.sort(Comparator.comparingInt((Notice notice) -> -notice.rank)
                .thenComparingInt(notice -> notice.number));
        return queue;
    }

    private List<Notice> suspectsOf(int picture, int district) {
        checkDistrict(district);
        if (picture == 0) {
            throw new IllegalArgumentException();
        }
        List<Notice> found = new ArrayList<>();
        for (Notice notice : notices) {
            boolean able = false;
            for (int shift = 0; shift < 8; shift++) {
                able |= covers(shifted(notice.picture, shift), shifted(picture, 0));
            }
            if (able && readers(notice.number, district) > 0) {
                found.add(notice);
            }
        }
        found.sort(Comparator.comparingInt((Notice notice) -> -readers(notice.number, district))
                .thenComparingInt(notice -> notice.number));
        return found;
    }

    private static boolean covers(boolean[][] picture, boolean[][] rumour) {
        for (int row = 0; row < 4; row++) {
            for (int column = 0; column < 8; column++) {
                if (rumour[row][column] && !picture[row][column]) {
                    return false;
                }
            }
        }
        return true;
    }

    private static boolean[][] shifted(int picture, int shift) {
        boolean[][] out = new boolean[4][8];
        for (int row = 0; row < 4; row++) {
            for (int column = 0; column < 8; column++) {
                if ((picture >> 8 * row + column & 1) == 1) {
                    out[row][(column + shift) % 8] = true;
                }
            }
        }
        return out;
    }

    private void oneHour(Board board) {
        board.charge += sun;
        if (board.charge > 200) {
            board.charge = 200;
        }
        if (board.shown != null && (board.shown.mended || hour >= board.shown.till)) {
            wipe(board);
        }
        boolean missed = false;
        Notice found = null;
        for (Notice notice : queueOf(board.district)) {
            if (found == null && isDue(notice)) {
                if (board.shown == notice || show(board, notice)) {
                    found = notice;
                } else {
                    missed = true;
                }
            }
        }
        if (found == null) {
            wipe(board);
        }
        board.sleeps = missed;
    }

    private void wipe(Board board) {
        turn(board, new boolean[4][8]);
        board.shown = null;
        board.shift = 0;
    }

    private boolean show(Board board, Notice notice) {
        int best = -1;
        int bestGreatest = 0;
        int bestChanges = 0;
        for (int shift = 0; shift < 8; shift++) {
            boolean[][] aim = shifted(notice.picture, shift);
            int[][] behind = new int[4][8];
            int changes = 0;
            int blacks = 0;
            boolean can = true;
            for (int row = 0; row < 4; row++) {
                for (int column = 0; column < 8; column++) {
                    behind[row][column] = board.wear[row][column];
                    if (aim[row][column] != board.black[row][column]) {
                        behind[row][column]++;
                        changes++;
                    }
                    can &= behind[row][column] <= 60;
                    if (aim[row][column]) {
                        blacks++;
                        can &= behind[row][column] + 1 <= 60;
                    }
                }
            }
            can &= board.charge - changes >= blacks;
            int greatest = greatest(behind);
            if (can && (best == -1 || greatest < bestGreatest
                    || greatest == bestGreatest && changes < bestChanges)) {
                best = shift;
                bestGreatest = greatest;
                bestChanges = changes;
            }
        }
        if (best == -1) {
            return false;
        }
        turn(board, shifted(notice.picture, best));
        board.shown = notice;
        board.shift = best;
        return true;
    }

    private static void turn(Board board, boolean[][] aim) {
        for (int row = 0; row < 4; row++) {
            for (int column = 0; column < 8; column++) {
                if (board.black[row][column] != aim[row][column]) {
                    board.charge--;
                    board.wear[row][column]++;
                    board.written.add(new int[] {row, column});
                }
            }
        }
        board.black = aim;
    }

    private static int greatest(int[][] numbers) {
        int found = 0;
        for (int[] row : numbers) {
            for (int number : row) {
                found = Math.max(found, number);
            }
        }
        return found;
    }
}
