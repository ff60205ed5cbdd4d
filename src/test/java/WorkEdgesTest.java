import java.util.function.Supplier;

/** The boundaries that part 1 of the terms and promises 2 to 7 name: TASKS, SETS, WORK, PROBES. */
public final class WorkEdgesTest {
    private static final int BAD = LessonDesk.BAD, NOT = LessonDesk.NOT, NONE = LessonDesk.NONE;
    private static final int NULL = LessonDesk.NULL, CAST = LessonDesk.CAST, INDEX = LessonDesk.INDEX;
    private static final int LEAST = Integer.MIN_VALUE, MOST = Integer.MAX_VALUE;

    public static void main(String[] args) {
        Edge.test("takes LESS (0 .. 999)", WorkEdgesTest::less);
        Edge.test("from MUCH (LESS .. 999)", WorkEdgesTest::much);
        Edge.test("in COLUMNS 0 (ones), 1 (tens), 2 (hundreds)", WorkEdgesTest::columns);
        Edge.test("FAULTS 0 .. 7; a SET of them is told by bits", WorkEdgesTest::faults);
        Edge.test("SETS of at most 3 are the KNOWN ones", WorkEdgesTest::known);
        Edge.test("their ORDER: fewer FAULTS first, then the lesser bits", WorkEdgesTest::order);
        digits();
        paying();
        Edge.test("0 by FAULT 6, 1 by 5, 2 by 2, 3 plainly, 4 by 0, 5 BORROWED", WorkEdgesTest::deeds);
        Edge.test("The ANSWER by a SET. BAD (a TASK, bits 0 .. 255).", WorkEdgesTest::work);
        Edge.test("The digit of a COLUMN (0 .. 2), and what was done there: 10 times that, and the digit. BAD.",
            WorkEdgesTest::row);
        Edge.test("How many KNOWN SETS EXPLAIN an ANSWER. BAD (ANSWER 0 .. 999).", WorkEdgesTest::could);
        Edge.test("The i-th of these. BAD: i below 0; NONE.", WorkEdgesTest::least);
        Edge.test("two SETS that give the same ANSWER for all TASKS with MUCH below n", WorkEdgesTest::alike);
        Edge.test("The first TASK (the least MUCH, then the least LESS) up to n (1 .. 200) that parts two SETS:"
            + " 1000 MUCH and LESS.", WorkEdgesTest::parts);
        Edge.test("BAD; NONE: they are ALIKE.", WorkEdgesTest::refusedParts);
        Edge.test("the TASK with MUCH below n with the most different ANSWERS by these, of like ones the least MUCH,"
            + " then the least LESS.", WorkEdgesTest::mostDifferent);
        Edge.test("A PROBE up to n (1 .. 200)", WorkEdgesTest::probeUpTo);
        Edge.test("from item i on, k of them (1 .. 6)", WorkEdgesTest::probeOf);
        Edge.test("BAD; NULL; CAST; INDEX; NOT: one is not 0 .. 255.", WorkEdgesTest::refusedProbes);
        Check.end();
    }

    /** A desk on which a TASK was worked: nothing of it may show in the next one. */
    private static LessonDesk used() {
        LessonDesk desk = new LessonDesk();
        desk.row(987, 18, 2, 2);
        return desk;
    }

    private static void work(int much, int less, int set, int want) {
        String call = "work(" + much + ", " + less + ", " + set + ")";
        Check.due(call, new LessonDesk().work(much, less, set), want);
        Check.due(call, used().work(much, less, set), want);
    }

    private static void row(int much, int less, int set, int column, int want) {
        String call = "row(" + much + ", " + less + ", " + set + ", " + column + ")";
        Check.due(call, new LessonDesk().row(much, less, set, column), want);
        Check.due(call, used().row(much, less, set, column), want);
    }

    private static void less() {
        Edge.range(0, 999, 999, 0, BAD, (desk, v) -> desk.work(999, v, 0));
        Edge.range(0, 39, 999, 30, BAD, (desk, v) -> desk.row(999, v, 0, 0));
        Edge.range(0, 29, 999, 93, BAD, (desk, v) -> desk.could(999, v, 0));
        Edge.range(0, 32, 999, 0, BAD, (desk, v) -> desk.least(999, v, 0, 0));
        // 1000 less 1000 is no TASK either.
        Edge.none(BAD, (desk, v) -> desk.work(v, v, 0), -1, 1000, LEAST, MOST);
        Edge.none(BAD, (desk, v) -> desk.row(v, v, 0, 0), -1, 1000, LEAST, MOST);
        Edge.none(BAD, (desk, v) -> desk.could(v, v, 0), -1, 1000, LEAST, MOST);
        Edge.none(BAD, (desk, v) -> desk.least(v, v, 0, 0), -1, 1000, LEAST, MOST);
    }

    private static void much() {
        Edge.range(0, 0, 999, 999, BAD, (desk, v) -> desk.work(v, 0, 0));
        Edge.range(500, 0, 999, 499, BAD, (desk, v) -> desk.work(v, 500, 0));
        Edge.range(500, 30, 999, 34, BAD, (desk, v) -> desk.row(v, 500, 0, 2));
        Edge.range(500, 93, 999, 0, BAD, (desk, v) -> desk.could(v, 500, 0));
        Edge.range(500, 0, 999, NONE, BAD, (desk, v) -> desk.least(v, 500, 0, 0));
    }

    private static void columns() {
        row(987, 123, 0, 0, 34);
        row(987, 123, 0, 1, 36);
        row(987, 123, 0, 2, 38);
    }

    /** Each FAULT alone, where it shows: FAULT 0 is bit 1, FAULT 7 is bit 128. */
    private static void faults() {
        work(52, 17, 1, 45);
        work(52, 17, 2, 45);
        work(50, 17, 4, 47);
        work(500, 1, 8, 599);
        work(500, 1, 16, 409);
        work(57, 10, 32, 40);
        work(57, 7, 64, 0);
        work(52, 17, 128, 55);
    }

    /** All 93 of them, the empty one too, give 0 for 0 less 0; so do those of 4, which do not count. */
    private static void known() {
        Check.due("could", new LessonDesk().could(0, 0, 0), 93);
        Check.due("the first", new LessonDesk().least(0, 0, 0, 0), 0);
        Check.due("the last", new LessonDesk().least(0, 0, 0, 92), 224);
        Check.due("no more", new LessonDesk().least(0, 0, 0, 93), NONE);
    }

    private static void order() {
        LessonDesk desk = new LessonDesk();
        int place = 0;
        for (int faults = 0; faults <= 3; faults++) {
            for (int set = 0; set <= 255; set++) {
                if (Integer.bitCount(set) == faults) {
                    Check.due("the SET at place " + place, desk.least(0, 0, 0, place), set);
                    place++;
                }
            }
        }
    }

    private static void digits() {
        Edge.test("of what is told here the first that fits gives the COLUMN's digit", () -> {
            row(305, 5, 255, 2, 0);
            row(305, 105, 255, 1, 10);
            row(305, 195, 255, 1, 29);
            row(335, 195, 255, 2, 32);
            row(315, 195, 255, 1, 48);
        });
        Edge.test("the COLUMN is beyond the digits of LESS (0 has one digit): 0", () -> {
            work(987, 0, 64, 7);
            work(987, 9, 64, 8);
            work(987, 10, 64, 77);
            work(987, 99, 64, 88);
            work(987, 100, 64, 887);
            row(987, 0, 64, 0, 37);
            row(987, 9, 64, 1, 0);
            row(987, 10, 64, 1, 37);
            row(987, 99, 64, 2, 0);
            row(987, 100, 64, 2, 38);
        });
        Edge.test("FAULT 5: below is 0: 0.", () -> {
            row(987, 0, 32, 0, 10);
            row(987, 1, 32, 0, 36);
            row(900, 0, 32, 1, 10);
        });
        Edge.test("FAULT 2: above is 0 (below is more): below.", () -> {
            row(900, 0, 4, 0, 30);
            row(900, 1, 4, 0, 21);
            row(900, 9, 4, 0, 29);
            row(901, 2, 4, 0, 59);
        });
        Edge.test("Above is no less than below: above less below.", () -> {
            row(555, 554, 1, 0, 31);
            row(555, 555, 1, 0, 30);
            row(655, 556, 1, 0, 41);
        });
        Edge.test("FAULT 0: below less above.", () -> {
            row(100, 9, 1, 0, 49);
            row(108, 9, 1, 0, 41);
        });
        Edge.test("Else it BORROWS: 10 and above less below; and it PAYS, unless by FAULT 1.", () -> {
            row(110, 9, 0, 0, 51);
            row(118, 9, 0, 0, 59);
            row(118, 9, 0, 1, 30);
            row(118, 9, 2, 0, 59);
            row(118, 9, 2, 1, 31);
        });
    }

    private static void paying() {
        Edge.test("(beyond the hundreds: nothing is paid)", () -> {
            // By FAULT 4 the hundreds pay twice: 0 is left of 2, and the hundreds BORROW for nothing.
            row(200, 191, 16, 2, 59);
            work(200, 191, 16, 919);
            // The tens pay, and the hundreds behind them are 0 already.
            work(100, 91, 16, 19);
        });
        Edge.test("if above it is more than 0, it is 1 less there", () -> {
            row(910, 1, 0, 1, 30);
            row(990, 1, 0, 1, 38);
            row(100, 1, 0, 2, 30);
        });
        Edge.test("(by FAULT 7: 1 more, 9 at most)", () -> {
            row(910, 1, 128, 1, 32);
            row(980, 1, 128, 1, 39);
            row(990, 1, 128, 1, 39);
            row(800, 1, 128, 2, 39);
            row(900, 1, 128, 2, 39);
        });
        Edge.test("if it is 0: by FAULT 3 it is 9, and all is paid; else by FAULT 4 it stays 0; else it is 9;"
            + " and the COLUMN behind it PAYS.", () -> {
            work(500, 1, 0, 499);
            work(500, 1, 8, 599);
            work(500, 1, 16, 409);
            work(500, 1, 8 + 16, 599);
            // FAULT 7 shows only where it is more than 0.
            work(500, 1, 8 + 128, 599);
            work(500, 1, 16 + 128, 609);
            work(500, 1, 128, 699);
        });
    }

    private static void deeds() {
        row(905, 5, 64, 1, 0);
        row(905, 5, 32, 1, 10);
        row(905, 15, 4, 1, 21);
        row(905, 5, 0, 1, 30);
        row(905, 15, 1, 1, 41);
        row(905, 15, 0, 1, 59);
    }

    private static void work() {
        Edge.range(0, 35, 255, 45, BAD, (desk, v) -> desk.work(52, 17, v));
        Edge.refused("no task, no set", desk -> desk.work(17, 52, 256), BAD);
    }

    private static void row() {
        Edge.range(0, 55, 2, 32, BAD, (desk, v) -> desk.row(304, 99, 0, v));
        Edge.range(0, 55, 255, 45, BAD, (desk, v) -> desk.row(304, 99, v, 0));
        Edge.refused("no task, no set, no column", desk -> desk.row(98, 99, 256, 3), BAD);
    }

    private static void could() {
        Edge.range(0, 93, 999, 0, BAD, (desk, v) -> desk.could(0, 0, v));
        // 999 is given by all but the 51 that have FAULT 5 or 6.
        Check.due("of 999", new LessonDesk().could(999, 0, 999), 42);
        Edge.refused("no task, no answer", desk -> desk.could(0, 1, 1000), BAD);
    }

    private static void least() {
        // 51 SETS give 45, none gives 777.
        Check.due("the first", new LessonDesk().least(52, 17, 45, 0), 1);
        Check.due("the last", new LessonDesk().least(52, 17, 45, 50), 194);
        Edge.none(NONE, (desk, v) -> desk.least(52, 17, 45, v), 51, 93, MOST);
        Edge.none(BAD, (desk, v) -> desk.least(52, 17, 45, v), -1, LEAST);
        Edge.range(0, 0, 999, NONE, BAD, (desk, v) -> desk.least(0, 0, v, 0));
        Edge.none(NONE, (desk, v) -> desk.least(9, 3, 777, v), 0, MOST);
        Edge.refused("no i, and none: BAD first", desk -> desk.least(9, 3, 777, -1), BAD);
        Edge.refused("no answer, and none: BAD first", desk -> desk.least(9, 3, 1000, MOST), BAD);
        Edge.refused("no task, and none: BAD first", desk -> desk.least(3, 9, 777, MOST), BAD);
    }

    /** 10 less 1 parts 0 and 1, 200 less 101 parts 32 and 40: but 200 is not below 200. */
    private static void alike() {
        Check.due("up to 10", new LessonDesk().parts(0, 1, 10), NONE);
        Check.due("up to 11", new LessonDesk().parts(0, 1, 11), 10001);
        work(200, 101, 32, 9);
        work(200, 101, 40, 109);
        Check.due("up to 200", new LessonDesk().parts(32, 40, 200), NONE);
        Check.due("a SET and itself", new LessonDesk().parts(255, 255, 200), NONE);
    }

    private static void parts() {
        Edge.range(1, NONE, 200, 10001, BAD, (desk, v) -> desk.parts(0, 1, v));
        Check.due("up to 1", new LessonDesk().parts(0, 32, 1), NONE);
        // 1 less 0; then of 10 less 1 to 10 less 9 the first; of 100 less 1 and 101 less 2 the first.
        Check.due("up to 2", new LessonDesk().parts(0, 32, 2), 1000);
        Check.due("up to 100", new LessonDesk().parts(0, 8, 100), NONE);
        Check.due("up to 101", new LessonDesk().parts(0, 8, 101), 100001);
        Check.due("up to 102", new LessonDesk().parts(4, 12, 102), 101002);
    }

    private static void refusedParts() {
        Edge.range(0, 10001, 255, 1000, BAD, (desk, v) -> desk.parts(v, 1, 200));
        Edge.range(0, 10001, 255, 1000, BAD, (desk, v) -> desk.parts(1, v, 200));
        Edge.refused("ALIKE", desk -> desk.parts(7, 7, 200), NONE);
        // ALIKE, too: BAD first.
        Edge.none(BAD, (desk, v) -> desk.parts(7, 7, v), 0, 201, LEAST, MOST);
        Edge.none(BAD, (desk, v) -> desk.parts(v, v, 200), -1, 256, LEAST, MOST);
    }

    /** A busy desk with SETS on SHEET 2, which holds ints. */
    private static LessonDesk withSets(int... sets) {
        LessonDesk desk = Edge.busy();
        Edge.put(desk, 2, 2, sets);
        return desk;
    }

    private static void mostDifferent() {
        int[][] due = {{1, 0}, {10, 0}, {11, 10001}, {100, 10001}, {101, 100001}, {200, 100001}};
        for (int[] d : due) {
            Check.due("up to " + d[0], withSets(0, 1, 2, 4, 8, 16).probe(d[0], 2, 2, 0, 6), d[1]);
        }
        Check.due("200 less 101 alone would part these", withSets(32, 40).probe(200, 2, 2, 0, 2), 0);
        Check.due("of 1 less 0, 2 less 0 .. the first", withSets(0, 32).probe(200, 2, 2, 0, 2), 1000);
        Check.due("alike ones: the first TASK of all", withSets(5, 5, 5).probe(200, 2, 2, 0, 3), 0);
    }

    private static void probeUpTo() {
        // SETS 17 and 35 are items 1 and 2: they part 1 less 0.
        Edge.range(1, 0, 200, 1000, BAD, (desk, v) -> desk.probe(v, 2, 2, 1, 2));
    }

    private static void probeOf() {
        Edge.range(1, 0, 6, 111012, BAD, (desk, v) -> desk.probe(200, 2, 2, 0, v));
        // From the first item, up to the last one; beyond both.
        Check.due("the last item", withSets(0, 0, 1, 2).probe(200, 2, 2, 2, 2), 10001);
        Check.due("the first items", withSets(0, 0, 1, 2).probe(200, 2, 2, 0, 2), 0);
        Check.due("those within alone", withSets(256, 0, 1, -1).probe(200, 2, 2, 1, 2), 10001);
        Edge.none(INDEX, (desk, v) -> desk.probe(200, 1, 1, v, 1), -1, 5, LEAST, MOST);
        Edge.none(INDEX, (desk, v) -> desk.probe(200, 1, 1, v, 5), -1, 1, LEAST, MOST);
        Edge.none(INDEX, (desk, v) -> desk.probe(200, 1, 1, v, 6), -1, 0, LEAST, MOST);
        Check.due("all five", Edge.busy().probe(1, 1, 1, 0, 5), 0);
        Check.due("the fifth", Edge.busy().probe(1, 1, 1, 4, 1), 0);
    }

    private static void refusedProbes() {
        Edge.range(0, 0, 2, 0, BAD, (desk, v) -> desk.probe(1, v, v, 0, 1));
        Edge.none(BAD, (desk, v) -> desk.probe(1, v, 1, 0, 1), -1, 4, LEAST, MOST);
        Edge.none(BAD, (desk, v) -> desk.probe(1, 1, v, 0, 1), -1, 3, LEAST, MOST);
        Edge.refused("nothing there", desk -> desk.probe(1, 3, 1, 0, 1), NULL);
        Edge.refused("a row of bytes as shorts", desk -> desk.probe(1, 0, 1, 0, 1), CAST);
        Edge.refused("a row of shorts as ints", desk -> desk.probe(1, 1, 2, 0, 1), CAST);
        Edge.refused("a row of ints as bytes", desk -> desk.probe(1, 2, 0, 0, 1), CAST);
        // Items 0 .. 255 are SETS, -1 and 256 are not; bytes are never above 127.
        int[][] sets = {{0, 0}, {255, 0}, {-1, NOT}, {256, NOT}, {LEAST, NOT}, {MOST, NOT}};
        for (int[] s : sets) {
            Check.due("the SET " + s[0], withSets(1, s[0]).probe(1, 2, 2, 0, 2), s[1]);
        }
        Supplier<LessonDesk> last = () -> withSets(1, 2, 256);
        Edge.refused("the last one is 256", last, desk -> desk.probe(1, 2, 2, 0, 3), NOT);
        Check.due("those ahead of it", last.get().probe(1, 2, 2, 0, 2), 0);
        for (int[] bad : new int[][] {{0, 3, 1, 9, 1}, {1, 4, 1, 9, 1}, {1, 3, 3, 9, 1}, {1, 3, 1, 9, 7}}) {
            Edge.refused("BAD ahead of NULL", desk -> desk.probe(bad[0], bad[1], bad[2], bad[3], bad[4]), BAD);
        }
        for (int[] bad : new int[][] {{201, 2, 1, 9, 1}, {1, 2, -1, 9, 1}, {1, 2, 1, 9, 0}}) {
            Edge.refused("BAD ahead of CAST", desk -> desk.probe(bad[0], bad[1], bad[2], bad[3], bad[4]), BAD);
        }
        Edge.refused("BAD ahead of INDEX", desk -> desk.probe(0, 2, 2, 9, 1), BAD);
        Edge.refused("BAD ahead of NOT", last, desk -> desk.probe(201, 2, 2, 2, 1), BAD);
        Edge.refused("NULL ahead of INDEX", desk -> desk.probe(1, 3, 1, -1, 6), NULL);
        Edge.refused("CAST ahead of INDEX", desk -> desk.probe(1, 2, 1, -1, 6), CAST);
        Edge.refused("CAST ahead of NOT", last, desk -> desk.probe(1, 2, 1, 2, 1), CAST);
        Edge.refused("INDEX ahead of NOT", last, desk -> desk.probe(1, 2, 2, 2, 2), INDEX);
    }
}
