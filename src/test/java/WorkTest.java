/** Promises 2 to 7: work, row, could, least, parts, probe. */
public final class WorkTest {
    private static final LessonDesk desk = new LessonDesk();

    public static void main(String[] args) {
        rightWay();
        faults();
        paying();
        rows();
        badWork();
        couldAndLeast();
        order();
        parts();
        probes();
        badProbes();
        Check.end();
    }

    /** Each on a new object, since one object is for 512 calls at most. */
    private static void work(int much, int less, int set, int want) {
        Check.due("work(" + much + ", " + less + ", " + set + ")", new LessonDesk().work(much, less, set), want);
    }

    private static void rightWay() {
        for (int much = 0; much <= 999; much += 7) {
            for (int less = 0; less <= much; less++) {
                work(much, less, 0, much - less);
            }
        }
        work(999, 999, 0, 0);
        work(1, 1, 255, 0);
    }

    private static void faults() {
        work(52, 17, 1, 45);
        work(52, 17, 2, 45);
        work(50, 17, 4, 47);
        work(57, 10, 32, 40);
        work(57, 7, 64, 0);
        work(357, 7, 64, 0);
        work(357, 17, 64, 40);
        // 0 has one digit: its ones are no COLUMN beyond it.
        work(357, 0, 64, 7);
        work(357, 0, 32, 0);
        // FAULT 6 is told ahead of 5, both ahead of 2 and 0.
        work(340, 7, 64 + 32 + 4, 7);
        work(340, 107, 32 + 4, 207);
        // FAULT 2 ahead of 0, and only where above is 0 and below more.
        work(500, 123, 4 + 1, 423);
        work(510, 203, 4, 313);
        work(500, 100, 4, 400);
        // By FAULT 2 what was made 0 by paying is 0 above, too.
        work(212, 115, 4, 117);
    }

    private static void paying() {
        work(500, 1, 0, 499);
        work(500, 1, 2, 509);
        work(500, 1, 8, 599);
        work(500, 1, 16, 409);
        work(500, 1, 8 + 16, 599);
        work(500, 1, 128, 699);
        work(500, 1, 128 + 8, 599);
        work(500, 1, 128 + 16, 609);
        // By FAULT 7 it is 9 at most.
        work(990, 1, 128, 999);
        work(90, 1, 128, 99);
        work(900, 1, 128, 999);
        // 1 from the tens, which are then less than those below: the hundreds pay, too.
        work(312, 119, 0, 193);
        // What is beyond the hundreds is never paid: 0 hundreds above, 1 below.
        work(101, 109, 0, LessonDesk.BAD);
        work(200, 191, 16, 919);
        work(110, 101, 0, 9);
        work(100, 91, 16, 19);
    }

    private static void rows() {
        int[][] rows = {
            {304, 99, 0, 55, 30, 32}, {304, 99, 1, 45, 49, 33}, {304, 99, 16, 55, 51, 31},
            {304, 99, 32, 55, 30, 10}, {304, 99, 64, 55, 30, 0}, {300, 99, 4, 29, 29, 33},
            {300, 0, 32 + 64, 10, 0, 0}, {305, 205, 32, 30, 10, 31},
            // Where below is 0, too, FAULT 2 does nothing.
            {300, 100, 4, 30, 30, 32}
        };
        for (int[] r : rows) {
            for (int column = 0; column < 3; column++) {
                Check.due("row(" + r[0] + ", " + r[1] + ", " + r[2] + ", " + column + ")",
                    desk.row(r[0], r[1], r[2], column), r[3 + column]);
            }
        }
        Check.due("row, column 3", desk.row(304, 99, 0, 3), LessonDesk.BAD);
        Check.due("row, column -1", desk.row(304, 99, 0, -1), LessonDesk.BAD);
        Check.due("row, set", desk.row(304, 99, 256, 0), LessonDesk.BAD);
        Check.due("row, task", desk.row(98, 99, 0, 0), LessonDesk.BAD);
    }

    private static void badWork() {
        work(1000, 0, 0, LessonDesk.BAD);
        work(5, 6, 0, LessonDesk.BAD);
        work(5, -1, 0, LessonDesk.BAD);
        work(-1, -1, 0, LessonDesk.BAD);
        work(1000, 1000, 0, LessonDesk.BAD);
        work(5, 5, -1, LessonDesk.BAD);
        work(5, 5, 256, LessonDesk.BAD);
        work(Integer.MAX_VALUE, Integer.MIN_VALUE, 0, LessonDesk.BAD);
    }

    private static void couldAndLeast() {
        Check.due("could right", desk.could(52, 17, 35), 26);
        Check.due("could", desk.could(52, 17, 45), 51);
        Check.due("could none", desk.could(9, 3, 777), 0);
        Check.due("could all", desk.could(0, 0, 0), 93);
        Check.due("could, answer 1000", desk.could(52, 17, 1000), LessonDesk.BAD);
        Check.due("could, answer -1", desk.could(52, 17, -1), LessonDesk.BAD);
        Check.due("could, task", desk.could(17, 52, 35), LessonDesk.BAD);
        Check.due("least 0", desk.least(52, 17, 45, 0), 1);
        Check.due("least 2", desk.least(52, 17, 45, 2), 3);
        Check.due("least 50", desk.least(52, 17, 45, 50), 194);
        Check.due("least 51", desk.least(52, 17, 45, 51), LessonDesk.NONE);
        Check.due("least far", desk.least(52, 17, 45, Integer.MAX_VALUE), LessonDesk.NONE);
        Check.due("least of none", desk.least(9, 3, 777, 0), LessonDesk.NONE);
        Check.due("least -1", desk.least(52, 17, 45, -1), LessonDesk.BAD);
        Check.due("least, answer", desk.least(52, 17, 1000, 0), LessonDesk.BAD);
        Check.due("least, task", desk.least(52, 53, 0, 0), LessonDesk.BAD);
    }

    /** All KNOWN SETS give 0 for 0 less 0, so that least() tells their ORDER. */
    private static void order() {
        int i = 0;
        for (int faults = 0; faults <= 3; faults++) {
            for (int set = 0; set <= 255; set++) {
                if (Integer.bitCount(set) == faults) {
                    Check.due("the set at " + i, desk.least(0, 0, 0, i), set);
                    i++;
                }
            }
        }
        Check.due("beyond the known sets", desk.least(0, 0, 0, i), LessonDesk.NONE);
    }

    private static void parts(int a, int b, int n, int want) {
        Check.due("parts(" + a + ", " + b + ", " + n + ")", desk.parts(a, b, n), want);
    }

    private static void parts() {
        // 10 less 1: 9, by FAULT 0 11.
        parts(0, 1, 200, 10001);
        parts(0, 1, 11, 10001);
        parts(0, 1, 10, LessonDesk.NONE);
        // The ones borrow from 0 tens first for 100 less 1.
        parts(0, 8, 200, 100001);
        parts(0, 8, 101, 100001);
        parts(0, 8, 100, LessonDesk.NONE);
        parts(0, 32, 200, 1000);
        // By FAULT 0 nothing is borrowed: FAULTS 1, 3, 4, 7 change nothing.
        parts(1, 1 + 2 + 8 + 16 + 128, 200, LessonDesk.NONE);
        parts(255, 255, 200, LessonDesk.NONE);
        parts(0, 0, 1, LessonDesk.NONE);
        parts(0, 1, 0, LessonDesk.BAD);
        parts(0, 1, 201, LessonDesk.BAD);
        parts(-1, 1, 5, LessonDesk.BAD);
        parts(0, 256, 5, LessonDesk.BAD);
    }

    private static void probe(int n, int sheet, int lane, int i, int k, int want) {
        Check.due("probe(" + n + ", " + sheet + ", " + lane + ", " + i + ", " + k + ")",
            desk.probe(n, sheet, lane, i, k), want);
    }

    private static void probes() {
        Check.fill(desk, 0, 1, 0, 1, 2, 4, 16, 300, 255);
        probe(60, 0, 1, 0, 1, 0);
        probe(60, 0, 1, 0, 2, 10001);
        probe(10, 0, 1, 0, 2, 0);
        probe(1, 0, 1, 0, 5, 0);
        probe(120, 0, 1, 0, 5, 100001);
        probe(200, 0, 1, 1, 4, 101002);
        probe(200, 0, 1, 6, 1, 0);
        // Alike ones count once: they never give two ANSWERS.
        Check.fill(desk, 1, 2, 5, 5, 5, 5, 5, 5);
        probe(200, 1, 2, 0, 6, 0);
        // Bytes above 127 are below 0.
        Check.fill(desk, 2, 0, 127, 128, 0);
        probe(60, 2, 0, 0, 1, 0);
        probe(60, 2, 0, 1, 1, LessonDesk.NOT);
        desk.drop(1);
        desk.drop(2);
    }

    private static void badProbes() {
        probe(60, 0, 1, 0, 6, LessonDesk.NOT);
        probe(60, 0, 1, 5, 3, LessonDesk.INDEX);
        probe(60, 0, 1, -1, 1, LessonDesk.INDEX);
        probe(60, 0, 1, 7, 1, LessonDesk.INDEX);
        probe(60, 0, 1, Integer.MAX_VALUE, 6, LessonDesk.INDEX);
        probe(60, 0, 2, 0, 1, LessonDesk.CAST);
        probe(60, 0, 2, 9, 1, LessonDesk.CAST);
        probe(60, 1, 2, -1, 1, LessonDesk.NULL);
        probe(0, 0, 1, 0, 1, LessonDesk.BAD);
        probe(201, 1, 1, 0, 1, LessonDesk.BAD);
        probe(60, 4, 1, 0, 1, LessonDesk.BAD);
        probe(60, -1, 1, 0, 1, LessonDesk.BAD);
        probe(60, 0, 3, 0, 1, LessonDesk.BAD);
        probe(60, 0, -1, 0, 1, LessonDesk.BAD);
        probe(60, 0, 1, 0, 0, LessonDesk.BAD);
        probe(60, 0, 1, 0, 7, LessonDesk.BAD);
    }
}
