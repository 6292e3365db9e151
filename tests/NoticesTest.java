/** Promises 10 to 17: notices. */
public final class NoticesTest {
    public static void main(String[] args) {
        post();
        fortyNotices();
        queue();
        queueOfThoseOver();
        takeBack();
        takeBackRefused();
        takeBackAtTheEdges();
        noNoticeYet();
        refusedCallsLeaveNoMark();
        mend();
        mendRaisesByOne();
        mendBeforeItsHours();
        mendRefused();
        deny();
        queuedAndQueuedAt();
        isDue();
        Check.finish("NoticesTest");
    }

    private static void post() {
        FerroDesk desk = new FerroDesk();
        desk.addBoard(0, 200);
        int[][] wrong = {{-1, 1, 0, 1}, {10, 1, 0, 1}, {0, 0, 0, 1}, {0, 1, -1, 1}, {0, 1, 5, 5},
            {0, 1, 6, 5}, {0, 1, 0, 2001}, {0, 1, 2000, 2001}, {0, 1, 2000, 2000},
            {0, 1, Integer.MIN_VALUE, 1}, {0, 1, 0, Integer.MAX_VALUE}, {0, 1, 0, -1},
            {Integer.MAX_VALUE, 1, 0, 1}};
        for (int[] row : wrong) {
            Check.refuses("10: post", desk, IllegalArgumentException.class,
                    on -> on.post(row[0], row[1], row[2], row[3]));
        }
        Check.same("10: number", desk.post(0, 1, 0, 2000), 0);
        Check.same("10: number", desk.post(9, Integer.MIN_VALUE, 1999, 2000), 1);
        Check.same("10: number", desk.post(9, -1, 0, 1), 2);
        Check.same("10: notices", desk.notices(), 3);
        for (int district = 0; district < 4; district++) {
            Check.same("10: for no district", desk.queued(district), 0);
        }
        desk.go(1);
        Check.same("10: shown nowhere", desk.shows(0), -1);
        Check.same("10: hours that went by already", desk.post(0, 1, 0, 1), 3);
    }

    private static void fortyNotices() {
        FerroDesk desk = new FerroDesk();
        for (int number = 0; number < 40; number++) {
            Check.same("10: number", desk.post(number % 10, 1 + number, 0, 9), number);
        }
        Check.refuses("10: 41", desk, IllegalStateException.class, on -> on.post(0, 1, 0, 1));
        Check.refuses("10: 41, a wrong rank", desk, IllegalArgumentException.class,
                on -> on.post(10, 1, 0, 1));
        Check.refuses("10: 41, a picture of 0", desk, IllegalArgumentException.class,
                on -> on.post(0, 0, 0, 1));
        Check.refuses("10: 41, no hours", desk, IllegalArgumentException.class,
                on -> on.post(0, 1, 1, 1));
        Check.refuses("13: 41", desk, IllegalStateException.class, on -> on.mend(0, 5));
        Check.refuses("13: 41, the same", desk, IllegalArgumentException.class,
                on -> on.mend(0, 1));
        Check.refuses("14: 41", desk, IllegalStateException.class, on -> on.deny(1, 0, 5));
        Check.refuses("14: 41, no rumour", desk, IllegalArgumentException.class,
                on -> on.deny(0, 0, 5));
        desk.go(9);
        Check.refuses("13: 41, over", desk, UnsupportedOperationException.class,
                on -> on.mend(0, 5));
    }

    private static void queue() {
        FerroDesk desk = new FerroDesk();
        Check.refuses("11: none", desk, IndexOutOfBoundsException.class, on -> on.queue(0, 0));
        desk.post(3, 1, 0, 9);
        desk.post(3, 2, 0, 9);
        Check.same("11: new", desk.queue(0, 2), true);
        Check.same("11: again", desk.queue(0, 2), false);
        Check.same("11: another district", desk.queue(0, 3), true);
        Check.same("11: another notice", desk.queue(1, 2), true);
        Check.same("11: in two", Check.queueOf(desk, 2), " 0 1");
        Check.same("11: in one", Check.queueOf(desk, 3), " 0");
        Check.same("11: in none", Check.queueOf(desk, 0), "");
        Check.refuses("11: no notice", desk, IndexOutOfBoundsException.class,
                on -> on.queue(2, 0));
        Check.refuses("11: no notice, no district", desk, IndexOutOfBoundsException.class,
                on -> on.queue(-1, 4));
        Check.refuses("11: no district", desk, IllegalArgumentException.class,
                on -> on.queue(0, 4));
        Check.refuses("11: no district", desk, IllegalArgumentException.class,
                on -> on.queue(0, -1));
        desk.takeBack(0, 9);
        Check.refuses("11: taken back, with hours left", desk,
                UnsupportedOperationException.class, on -> on.queue(0, 1));
        Check.refuses("11: taken back, in its own queue", desk,
                UnsupportedOperationException.class, on -> on.queue(0, 2));
        Check.refuses("11: taken back, no district", desk, IllegalArgumentException.class,
                on -> on.queue(0, 4));
        Check.same("11: it stays where it was", Check.queueOf(desk, 2), " 0 1");
        desk.mend(1, 7);
        Check.refuses("11: mended", desk, UnsupportedOperationException.class,
                on -> on.queue(1, 0));
        Check.same("11: the other one of a mended notice", desk.queue(2, 0), true);
    }

    /** Those whose hours are over are none of a queue any more, also when they are put there. */
    private static void queueOfThoseOver() {
        FerroDesk desk = new FerroDesk();
        desk.post(3, 1, 0, 2);
        desk.queue(0, 1);
        desk.go(1);
        Check.same("11: there in the last hour", desk.queue(0, 1), false);
        desk.go(1);
        Check.same("15: none", desk.queued(1), 0);
        Check.same("11: not there when over", desk.queue(0, 1), true);
        Check.same("15: none still", desk.queued(1), 0);
        Check.same("11: not there again", desk.queue(0, 1), true);
    }

    private static void takeBack() {
        FerroDesk desk = new FerroDesk();
        desk.addBoard(0, 200);
        desk.addBoard(0, 200);
        desk.addBoard(1, 200);
        desk.addBoard(2, 200);
        desk.post(3, 7, 1, 20);
        desk.post(2, 7, 1, 20);
        desk.queue(0, 0);
        desk.queue(0, 1);
        desk.queue(1, 2);
        Check.same("12: shown by none yet", desk.takeBack(1, 20), 0);
        desk.go(1);
        Check.same("12: three boards show it", desk.takeBack(0, 4), 3);
        Check.same("12: one shows the other", desk.takeBack(1, 19), 1);
        Check.same("12: to the same hour", desk.takeBack(0, 4), 3);
        Check.refuses("12: later than told", desk, IllegalArgumentException.class,
                on -> on.takeBack(0, 5));
        Check.same("12: sooner", desk.takeBack(0, 3), 3);
        desk.go(1);
        Check.same("12: shown still", desk.shows(0), 0);
        Check.same("12: due still", desk.isDue(0), true);
        Check.same("12: in the queue still", desk.queued(0), 1);
        desk.go(1);
        Check.same("12: not shown", desk.shows(0), -1);
        Check.same("12: not due", desk.isDue(0), false);
        Check.same("12: in no queue", desk.queued(0), 0);
        Check.same("12: the other is shown", desk.shows(3), 1);
        desk.post(2, 7, 9, 20);
        desk.queue(2, 0);
        Check.same("12: ahead of its first hour", desk.takeBack(2, 6), 0);
        desk.go(2);
        Check.same("12: its hours are not over yet", desk.queued(0), 1);
        desk.go(1);
        Check.same("12: over ahead of its first hour", desk.queued(0), 0);
        desk.go(5);
        Check.same("12: never due", desk.isDue(2), false);
    }

    private static void takeBackRefused() {
        FerroDesk desk = new FerroDesk();
        Check.refuses("12: none", desk, IndexOutOfBoundsException.class, on -> on.takeBack(0, 1));
        desk.post(3, 7, 1, 20);
        desk.post(3, 7, 1, 2);
        desk.go(1);
        int[] wrong = {1, 0, -1, 21, Integer.MIN_VALUE, Integer.MAX_VALUE};
        for (int hour : wrong) {
            Check.refuses("12: hour", desk, IllegalArgumentException.class,
                    on -> on.takeBack(0, hour));
        }
        Check.refuses("12: no notice", desk, IndexOutOfBoundsException.class,
                on -> on.takeBack(2, 0));
        Check.refuses("12: no notice", desk, IndexOutOfBoundsException.class,
                on -> on.takeBack(-1, 2));
        desk.mend(0, 8);
        Check.refuses("12: mended", desk, UnsupportedOperationException.class,
                on -> on.takeBack(0, 2));
        Check.refuses("12: mended, and later than that tells", desk,
                IllegalArgumentException.class, on -> on.takeBack(0, 3));
        Check.same("12: the other one", desk.takeBack(2, 20), 0);
        desk.go(1);
        Check.refuses("12: over", desk, IllegalArgumentException.class, on -> on.takeBack(1, 2));
        Check.refuses("12: over", desk, IllegalArgumentException.class, on -> on.takeBack(1, 3));
        Check.refuses("12: mended, over", desk, IllegalArgumentException.class,
                on -> on.takeBack(0, 3));
    }

    private static void takeBackAtTheEdges() {
        FerroDesk desk = new FerroDesk();
        desk.post(3, 7, 0, 2000);
        desk.post(3, 7, 0, 20);
        desk.post(3, 7, 0, 4);
        desk.queue(0, 1);
        desk.go(3);
        Check.refuses("12: now", desk, IllegalArgumentException.class, on -> on.takeBack(0, 3));
        Check.refuses("12: later than 2000", desk, IllegalArgumentException.class,
                on -> on.takeBack(0, 2001));
        Check.same("12: the latest hour", desk.takeBack(0, 2000), 0);
        Check.same("12: the hour told already", desk.takeBack(1, 20), 0);
        Check.same("12: the next hour", desk.takeBack(1, 4), 0);
        Check.refuses("12: the one told first", desk, IllegalArgumentException.class,
                on -> on.takeBack(1, 20));
        Check.same("12: the next hour, which was told already", desk.takeBack(2, 4), 0);
        Check.same("12: due in this hour still", desk.isDue(1), true);
        desk.go(1);
        Check.same("12: and not in the next", desk.isDue(1), false);
        Check.refuses("11: taken back, and over", desk, UnsupportedOperationException.class,
                on -> on.queue(1, 1));
        Check.refuses("11: taken back, to the hour told", desk,
                UnsupportedOperationException.class, on -> on.queue(0, 1));
        Check.same("12: it stays in its queue", Check.queueOf(desk, 1), " 0");
        Check.same("13: one taken back can be mended", desk.mend(0, 1), 3);
        Check.same("11: the other one was not taken back", desk.queue(3, 2), true);
        Check.refuses("11: mended and taken back", desk, UnsupportedOperationException.class,
                on -> on.queue(0, 2));
        Check.same("12: the other one", desk.takeBack(3, 5), 0);
    }

    private static void noNoticeYet() {
        FerroDesk desk = new FerroDesk();
        desk.addBoard(0, 200);
        desk.go(1);
        int[] notices = {-1, 0, 39, 40, Integer.MIN_VALUE, Integer.MAX_VALUE};
        for (int notice : notices) {
            Class<?> due = IndexOutOfBoundsException.class;
            Check.refuses("11: no notice", desk, due, on -> on.queue(notice, 0));
            Check.refuses("12: no notice", desk, due, on -> on.takeBack(notice, 2));
            Check.refuses("13: no notice", desk, due, on -> on.mend(notice, 1));
            Check.refuses("17: no notice", desk, due, on -> on.isDue(notice));
            Check.refuses("19: no notice", desk, due, on -> on.readers(notice, 0));
            Check.refuses("20: no notice", desk, due, on -> on.readIn(notice, 1));
        }
        for (int district = 0; district < 4; district++) {
            int asked = district;
            Check.same("15: an empty queue", desk.queued(district), 0);
            Check.refuses("16: an empty queue", desk, IndexOutOfBoundsException.class,
                    on -> on.queuedAt(asked, 0));
            Check.same("21: no suspects", desk.suspects(1, district), 0);
            Check.refuses("22: no suspects", desk, IndexOutOfBoundsException.class,
                    on -> on.suspectAt(1, asked, 0));
        }
        Check.same("10: the first one", desk.post(0, 1, 0, 1), 0);
    }

    /** What is not asked for at once: whether a notice counts as taken back, mended or queued. */
    private static void refusedCallsLeaveNoMark() {
        FerroDesk desk = new FerroDesk();
        desk.addBoard(0, 200);
        for (int number = 0; number < 40; number++) {
            desk.post(1, 7, 0, 9);
        }
        desk.go(1);
        Check.refuses("12: too late", desk, IllegalArgumentException.class,
                on -> on.takeBack(0, 10));
        Check.refuses("12: too early", desk, IllegalArgumentException.class,
                on -> on.takeBack(0, 1));
        Check.same("11: it was not taken back", desk.queue(0, 0), true);
        Check.refuses("13: there are 40", desk, IllegalStateException.class, on -> on.mend(1, 8));
        Check.refuses("13: the same", desk, IllegalArgumentException.class, on -> on.mend(1, 7));
        Check.same("11: it was not mended", desk.queue(1, 0), true);
        Check.same("12: nor is it of this hour only", desk.takeBack(1, 9), 0);
        Check.refuses("11: taken back", desk, UnsupportedOperationException.class,
                on -> on.queue(1, 3));
        Check.same("15: so it is not there", desk.queued(3), 0);
        Check.refuses("14: there are 40", desk, IllegalStateException.class,
                on -> on.deny(1, 2, 9));
        Check.same("15: nothing came into the queue", desk.queued(2), 0);
        desk.go(1);
        Check.refuses("18: too many", desk, IllegalArgumentException.class,
                on -> on.pass(0, 1000));
        Check.same("18: nobody read it", desk.pass(0, 1), 1);
        Check.same("20: nobody in this hour", desk.readIn(0, 2), 1);
    }

    private static void mend() {
        FerroDesk desk = new FerroDesk();
        desk.addBoard(0, 200);
        desk.addBoard(1, 200);
        desk.addBoard(3, 200);
        desk.post(8, 7, 0, 9);
        desk.post(9, 56, 0, 9);
        for (int district = 0; district < 3; district++) {
            desk.queue(0, district);
        }
        desk.queue(1, 3);
        desk.go(2);
        desk.pass(0, 3);
        desk.pass(2, 1);
        Check.same("13: the other one's number", desk.mend(0, 1), 2);
        Check.same("13: its queue", Check.queueOf(desk, 0), " 2 0");
        Check.same("13: not where it was not read", Check.queueOf(desk, 1), " 0");
        Check.same("13: nor where there is no board", Check.queueOf(desk, 2), " 0");
        Check.same("13: of this hour still", desk.isDue(0), true);
        Check.same("13: shown still", desk.shows(0), 0);
        Check.same("13: due from now on", desk.isDue(2), true);
        Check.same("13: read by none", desk.readers(2, 0), 0);
        Check.same("13: a rank of 10 at most", desk.mend(2, 2), 3);
        Check.same("13: read nowhere", Check.queueOf(desk, 0), " 2 0");
        desk.queue(3, 0);
        Check.same("13: both of the rank 10 or less, by rank", Check.queueOf(desk, 0), " 3 2 0");
        desk.go(1);
        Check.same("13: not of the next hour", desk.isDue(0), false);
        Check.same("13: not in its queue", Check.queueOf(desk, 0), " 3");
        Check.same("13: nor elsewhere", Check.queueOf(desk, 1), "");
        Check.same("13: shown", desk.shows(0), 3);
        Check.same("13: wiped", desk.shows(1), -1);
        Check.same("13: the rank 10", desk.mend(1, 4), 4);
        desk.mend(4, 8);
        desk.queue(5, 0);
        desk.deny(1, 0, 9);
        desk.post(9, 4, 0, 9);
        desk.queue(7, 0);
        Check.same("13: never above 10", Check.queueOf(desk, 0), " 3 5 6 7");
        desk.go(5);
        Check.same("13: the hours that it had left", desk.isDue(3), true);
        desk.go(1);
        Check.same("13: no more of them", desk.isDue(3), false);
    }

    private static void mendRaisesByOne() {
        FerroDesk desk = new FerroDesk();
        for (int district = 0; district < 4; district++) {
            desk.addBoard(district, 200);
        }
        int[] ranks = {3, 5, 4, 3};
        for (int number = 0; number < ranks.length; number++) {
            desk.post(ranks[number], 1 << number, number, 99);
            desk.queue(number, 3);
        }
        desk.queue(0, 1);
        desk.queue(0, 2);
        desk.takeBack(1, 3);
        desk.takeBack(2, 3);
        desk.go(1);
        Check.same("13: the higher one is shown", desk.shows(3), 1);
        desk.go(2);
        Check.same("13: this one is shown", desk.shows(3), 0);
        desk.pass(3, 1);
        desk.pass(2, 1);
        desk.post(5, 1, 0, 99);
        desk.queue(4, 3);
        desk.post(4, 1, 0, 99);
        desk.queue(5, 3);
        Check.same("13: the other one", desk.mend(0, 2), 6);
        Check.same("13: behind the rank 5 and the lower number", Check.queueOf(desk, 3),
                " 4 5 6 0 3");
        Check.same("13: the district 2", Check.queueOf(desk, 2), " 6 0");
        Check.same("13: the district 1", Check.queueOf(desk, 1), " 0");
    }

    private static void mendBeforeItsHours() {
        FerroDesk desk = new FerroDesk();
        desk.post(8, 7, 4, 6);
        desk.post(8, 7, 0, 9);
        desk.queue(0, 0);
        desk.go(1);
        desk.takeBack(1, 3);
        desk.mend(0, 9);
        desk.mend(1, 9);
        Check.same("13: in its queue in this hour", Check.queueOf(desk, 0), " 0");
        Check.same("13: the other one not yet", desk.isDue(2), false);
        Check.same("13: the hours of one taken back", desk.isDue(3), true);
        Check.same("13: that is taken back no more", desk.queue(3, 0), true);
        desk.go(1);
        Check.same("13: its last hour", desk.isDue(3), true);
        desk.go(1);
        Check.same("13: ends as told", desk.isDue(3), false);
        desk.go(1);
        Check.same("13: its own first hour", desk.isDue(2), true);
        Check.same("13: the mended one never", desk.isDue(0), false);
        desk.go(2);
        Check.same("13: its own end", desk.isDue(2), false);
    }

    private static void mendRefused() {
        FerroDesk desk = new FerroDesk();
        Check.refuses("13: none", desk, IndexOutOfBoundsException.class, on -> on.mend(0, 1));
        desk.post(8, 7, 0, 2);
        Check.refuses("13: no notice", desk, IndexOutOfBoundsException.class,
                on -> on.mend(1, 0));
        Check.refuses("13: no notice", desk, IndexOutOfBoundsException.class,
                on -> on.mend(-1, 1));
        Check.refuses("13: a picture of 0", desk, IllegalArgumentException.class,
                on -> on.mend(0, 0));
        Check.refuses("13: the same", desk, IllegalArgumentException.class, on -> on.mend(0, 7));
        desk.mend(0, 6);
        Check.refuses("13: mended", desk, UnsupportedOperationException.class,
                on -> on.mend(0, 5));
        Check.refuses("13: mended, the same", desk, IllegalArgumentException.class,
                on -> on.mend(0, 7));
        desk.go(2);
        Check.refuses("13: over", desk, UnsupportedOperationException.class,
                on -> on.mend(1, 5));
        Check.refuses("13: over, the same", desk, IllegalArgumentException.class,
                on -> on.mend(1, 6));
    }

    private static void deny() {
        FerroDesk desk = new FerroDesk();
        int[][] wrong = {{1, 4, 5}, {1, -1, 5}, {0, 0, 5}, {-1, 0, 5}, {1, 0, 0}, {1, 0, -1},
            {1, 0, 2001}, {1, 0, Integer.MAX_VALUE}, {1, 0, Integer.MIN_VALUE}};
        for (int[] row : wrong) {
            Check.refuses("14: deny", desk, IllegalArgumentException.class,
                    on -> on.deny(row[0], row[1], row[2]));
        }
        desk.addBoard(2, 200);
        desk.queue(desk.post(9, 1, 0, 9), 2);
        desk.go(1);
        Check.same("14: number", desk.deny(0x00FF00F1, 2, 3), 1);
        Check.same("14: ahead of the rank 9", Check.queueOf(desk, 2), " 1 0");
        Check.same("14: in no other queue", Check.queueOf(desk, 0), "");
        Check.same("14: from now on", desk.isDue(1), true);
        Check.same("14: not shown at once", desk.shows(0), 0);
        desk.go(1);
        Check.same("14: shown", desk.shows(0), 1);
        Check.same("14: black where the rumour is white", Check.cellsOf(desk, 0),
                rotated(~0x00FF00F1, desk.shift(0)));
        desk.go(1);
        Check.same("14: not shown any more", desk.shows(0), 0);
        Check.same("14: over", desk.isDue(1), false);
        Check.refuses("14: now", desk, IllegalArgumentException.class, on -> on.deny(1, 0, 3));
        Check.same("14: for an hour only", desk.deny(-2, 0, 4), 2);
        Check.same("14: to the last hour", desk.deny(Integer.MIN_VALUE, 3, 2000), 3);
        Check.same("14: it can be queued", desk.queue(3, 0), true);
        Check.same("14: by number", Check.queueOf(desk, 0), " 2 3");
    }

    private static int rotated(int picture, int columns) {
        int out = 0;
        for (int cell = 0; cell < 32; cell++) {
            int to = cell / 8 * 8 + (cell % 8 + columns) % 8;
            out |= (picture >>> cell & 1) << to;
        }
        return out;
    }

    private static void queuedAndQueuedAt() {
        FerroDesk desk = new FerroDesk();
        int[] ranks = {3, 9, 3, 0, 9, 4};
        for (int number = 0; number < ranks.length; number++) {
            desk.post(ranks[number], 1 + number, number == 4 ? 5 : 0, number == 1 ? 2 : 8);
        }
        int[] order = {5, 2, 0, 4, 3, 1};
        for (int number : order) {
            desk.queue(number, 1);
        }
        Check.same("15: all, those to come too", desk.queued(1), 6);
        Check.same("16: by rank, then by number", Check.queueOf(desk, 1), " 1 4 5 0 2 3");
        desk.go(2);
        Check.same("15: one is over", desk.queued(1), 5);
        Check.same("16: the rest move up", Check.queueOf(desk, 1), " 4 5 0 2 3");
        int[] wrong = {-1, 5, 40, Integer.MIN_VALUE, Integer.MAX_VALUE};
        for (int index : wrong) {
            Check.refuses("16: index", desk, IndexOutOfBoundsException.class,
                    on -> on.queuedAt(1, index));
        }
        Check.refuses("16: an empty queue", desk, IndexOutOfBoundsException.class,
                on -> on.queuedAt(0, 0));
        int[] noDistrict = {-1, 4, Integer.MIN_VALUE, Integer.MAX_VALUE};
        for (int district : noDistrict) {
            Check.refuses("15: district", desk, IllegalArgumentException.class,
                    on -> on.queued(district));
            Check.refuses("16: district", desk, IllegalArgumentException.class,
                    on -> on.queuedAt(district, -1));
        }
    }

    private static void isDue() {
        FerroDesk desk = new FerroDesk();
        Check.refuses("17: none", desk, IndexOutOfBoundsException.class, on -> on.isDue(0));
        desk.post(0, 1, 0, 1);
        desk.post(0, 1, 1, 3);
        boolean[] first = {true, false, false, false};
        boolean[] second = {false, true, true, false};
        for (int hour = 0; hour < 4; hour++) {
            Check.same("17: the first at " + hour, desk.isDue(0), first[hour]);
            Check.same("17: the second at " + hour, desk.isDue(1), second[hour]);
            desk.go(1);
        }
        int[] wrong = {-1, 2, 40, Integer.MIN_VALUE, Integer.MAX_VALUE};
        for (int notice : wrong) {
            Check.refuses("17: no notice", desk, IndexOutOfBoundsException.class,
                    on -> on.isDue(notice));
        }
    }
}
