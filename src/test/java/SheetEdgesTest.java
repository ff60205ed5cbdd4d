import java.util.function.Supplier;

/** The boundaries that part 1 of the terms and promises 31 to 34 name: SHEETS, their items, copies. */
public final class SheetEdgesTest {
    private static final int BAD = LessonDesk.BAD, NOT = LessonDesk.NOT, NULL = LessonDesk.NULL;
    private static final int CAST = LessonDesk.CAST, INDEX = LessonDesk.INDEX, SIZE = LessonDesk.SIZE;
    private static final int LEAST = Integer.MIN_VALUE, MOST = Integer.MAX_VALUE;

    public static void main(String[] args) {
        Edge.test("SHEETS 0 .. 3 hold nothing (at first)", SheetEdgesTest::nothingAtFirst);
        Edge.test("or a row of a LANE: 0 bytes, 1 shorts, 2 ints, of 0 to 40 items (0 at first)", SheetEdgesTest::rows);
        Edge.test("A SHEET holds a new row of a LANE: n. BAD: also n above 40; SIZE: n below 0.", SheetEdgesTest::sheet);
        Edge.test("A SHEET holds nothing: how many items it had. BAD; NULL.", SheetEdgesTest::drop);
        Edge.test("Item i of a SHEET, taken as a row of a LANE, becomes v, its lowest bits: 1.", SheetEdgesTest::item);
        Edge.test("BAD; NULL; CAST; INDEX.", SheetEdgesTest::refusedItems);
        Edge.test("n items of a SHEET from i on come to another one (or the same) from j on, as if all were taken ahead:"
            + " n.", SheetEdgesTest::copy);
        Edge.test("BAD; NULL (either); CAST: of unlike LANES; INDEX.", SheetEdgesTest::refusedCopies);
        Check.end();
    }

    /** An item that is 0 .. 999, or NOT, if it is another number: seen as the ANSWER to 0 less 0. */
    private static int told(LessonDesk desk, int sheet, int lane, int i) {
        int other = sheet == 3 ? 2 : 3;
        desk.learner();
        desk.sheet(other, lane, 3);
        Check.due("copy of an item", desk.copy(sheet, i, other, 2, 1), 1);
        int many = desk.answers(0, other, lane, 0, 1);
        if (many == NOT) {
            return NOT;
        }
        int answer = desk.count(0, 2) == 1 ? 0 : desk.strange(3);
        desk.aside(0, many - 1, true);
        return answer;
    }

    private static void nothingAtFirst() {
        for (int sheet = 0; sheet < 4; sheet++) {
            LessonDesk desk = new LessonDesk();
            desk.learner();
            for (int lane = 0; lane < 3; lane++) {
                Check.due("item", desk.item(sheet, lane, 0, 0), NULL);
                Check.due("probe", desk.probe(1, sheet, lane, 0, 1), NULL);
                Check.due("answers", desk.answers(0, sheet, lane, 0, 1), NULL);
            }
            for (int other = 0; other < 4; other++) {
                Check.due("copy", desk.copy(sheet, 0, other, 0, 0), NULL);
            }
            Check.due("drop", desk.drop(sheet), NULL);
        }
        Check.due("sheet 4", new LessonDesk().drop(4), BAD);
    }

    private static void rows() {
        for (int lane = 0; lane < 3; lane++) {
            LessonDesk desk = new LessonDesk();
            Check.due("none", desk.sheet(1, lane, 0), 0);
            Check.due("no item", desk.item(1, lane, 0, 0), INDEX);
            Check.due("one", desk.sheet(1, lane, 1), 1);
            Check.due("it", desk.item(1, lane, 0, 0), 1);
            Check.due("no more", desk.item(1, lane, 1, 0), INDEX);
            Check.due("forty", desk.sheet(1, lane, 40), 40);
            for (int i = 0; i < 40; i++) {
                Check.due("0 at first", told(desk, 1, lane, i), 0);
            }
            LessonDesk forty = new LessonDesk();
            forty.sheet(1, lane, 40);
            Check.due("the last one", forty.item(1, lane, 39, 5), 1);
            Check.due("it", told(forty, 1, lane, 39), 5);
            Check.due("no more", forty.item(1, lane, 40, 0), INDEX);
        }
    }

    private static void sheet() {
        // SHEETS 0, 1, 2 of a busy desk hold bytes, shorts, ints, SHEET 3 nothing.
        Edge.range(0, 5, 3, 5, BAD, (desk, v) -> desk.sheet(v, 1, 5));
        Edge.range(0, 5, 2, 5, BAD, (desk, v) -> desk.sheet(2, v, 5));
        Check.due("n 0", Edge.busy().sheet(2, 2, 0), 0);
        Check.due("n 40", Edge.busy().sheet(2, 2, 40), 40);
        Edge.none(BAD, (desk, v) -> desk.sheet(2, 2, v), 41, MOST);
        Edge.none(SIZE, (desk, v) -> desk.sheet(2, 2, v), -1, LEAST);
        Edge.none(SIZE, (desk, v) -> desk.sheet(3, 0, v), -1, LEAST);
        // BAD ahead of SIZE.
        Edge.none(BAD, (desk, v) -> desk.sheet(v, 1, -1), -1, 4, LEAST, MOST);
        Edge.none(BAD, (desk, v) -> desk.sheet(2, v, -1), -1, 3, LEAST, MOST);
        // A new row is 0 again, whatever was there: of the same LANE, of another, after none at all.
        for (int lane = 0; lane < 3; lane++) {
            LessonDesk desk = Edge.busy();
            desk.aside(0, 3, true);
            desk.aside(1, 0, true);
            desk.aside(1, 1, true);
            Check.due("anew", desk.sheet(1, lane, 4), 4);
            for (int i = 0; i < 4; i++) {
                Check.due("0 again", told(desk, 1, lane, i), 0);
            }
            Check.due("shorter now", desk.item(1, lane, 4, 0), INDEX);
            desk.item(1, lane, 3, 9);
            desk.drop(1);
            desk.sheet(1, lane, 4);
            Check.due("0 again after drop()", told(desk, 1, lane, 3), 0);
            desk.item(1, lane, 3, 9);
            desk.sheet(1, lane, 3);
            desk.sheet(1, lane, 4);
            Check.due("0 again, longer", told(desk, 1, lane, 3), 0);
        }
        // The other SHEETS stay.
        LessonDesk desk = Edge.busy();
        desk.sheet(1, 2, 1);
        Check.due("SHEET 0", desk.drop(0), 4);
        Check.due("SHEET 1", desk.drop(1), 1);
        Check.due("SHEET 2", desk.drop(2), 6);
        Check.due("SHEET 3", desk.drop(3), NULL);
    }

    private static void drop() {
        for (int sheet = 0; sheet < 4; sheet++) {
            Check.due("forty", Edge.full().drop(sheet), 40);
        }
        Edge.none(BAD, LessonDesk::drop, -1, 4, LEAST, MOST);
        Edge.refused("nothing there", desk -> desk.drop(3), NULL);
        LessonDesk desk = Edge.busy();
        Check.due("six", desk.drop(2), 6);
        Check.due("nothing any more", desk.drop(2), NULL);
        Check.due("nothing to write", desk.item(2, 2, 0, 0), NULL);
        desk.sheet(2, 2, 0);
        Check.due("none, which is not nothing", desk.drop(2), 0);
        Check.due("nothing any more", desk.drop(2), NULL);
        Check.due("the others stay", desk.drop(1), 5);
    }

    private static void item() {
        int[][] cut = {
            {0, 0, 0}, {0, 127, 127}, {0, 128, NOT}, {0, 255, NOT}, {0, 256, 0}, {0, 257, 1}, {0, -1, NOT},
            {0, -128, NOT}, {0, -129, 127}, {0, -256, 0}, {0, LEAST, 0}, {0, MOST, NOT}, {0, 0x7F00, 0},
            {1, 0, 0}, {1, 999, 999}, {1, 32767, NOT}, {1, 32768, NOT}, {1, 65535, NOT}, {1, 65536, 0},
            {1, 65536 + 999, 999}, {1, -1, NOT}, {1, -65536 + 128, 128}, {1, LEAST, 0}, {1, MOST, NOT}, {1, 256, 256},
            {2, 0, 0}, {2, 999, 999}, {2, 65536, NOT}, {2, 65536 + 999, NOT}, {2, -1, NOT}, {2, LEAST, NOT},
            {2, LEAST + 5, NOT}, {2, MOST, NOT}, {2, 256, 256}
        };
        for (int[] c : cut) {
            LessonDesk desk = new LessonDesk();
            desk.sheet(0, c[0], 3);
            Check.due("item", desk.item(0, c[0], 1, c[1]), 1);
            Check.due(c[1] + " of LANE " + c[0], told(desk, 0, c[0], 1), c[2]);
            Check.due("those beside it", told(desk, 0, c[0], 0) + told(desk, 0, c[0], 2), 0);
        }
        // What is kept of -1 is -1: it is no SET, even of bytes.
        LessonDesk bytes = new LessonDesk();
        Edge.put(bytes, 0, 0, 255, 127);
        Check.due("255 as a byte", bytes.probe(1, 0, 0, 0, 1), NOT);
        Check.due("127 as a byte", bytes.probe(1, 0, 0, 1, 1), 0);
    }

    private static void refusedItems() {
        Edge.range(0, 1, 2, 1, BAD, (desk, v) -> desk.item(v, v, 3, 9));
        Edge.none(BAD, (desk, v) -> desk.item(v, 2, 0, 9), -1, 4, LEAST, MOST);
        Edge.none(BAD, (desk, v) -> desk.item(2, v, 0, 9), -1, 3, LEAST, MOST);
        Edge.none(INDEX, (desk, v) -> desk.item(2, 2, v, 9), -1, 6, LEAST, MOST);
        Check.due("the first", Edge.busy().item(2, 2, 0, 9), 1);
        Check.due("the last", Edge.busy().item(2, 2, 5, 9), 1);
        Edge.none(Edge::full, INDEX, (desk, v) -> desk.item(2, 2, v, 9), -1, 40, LEAST, MOST);
        for (int sheet = 0; sheet < 3; sheet++) {
            for (int lane = 0; lane < 3; lane++) {
                int s = sheet;
                int l = lane;
                if (s != l) {
                    Edge.refused("SHEET " + s + " as LANE " + l, desk -> desk.item(s, l, 0, 9), CAST);
                    Edge.none(CAST, (desk, v) -> desk.item(s, l, v, 9), -1, 40, LEAST, MOST);
                }
            }
        }
        Edge.refused("nothing there", desk -> desk.item(3, 0, 0, 9), NULL);
        Edge.none(NULL, (desk, v) -> desk.item(3, 0, v, 9), -1, 40, LEAST, MOST);
        Edge.refused("BAD ahead of NULL", desk -> desk.item(3, 3, -1, 9), BAD);
        Edge.refused("BAD ahead of NULL", desk -> desk.item(4, 0, -1, 9), BAD);
        Edge.refused("BAD ahead of CAST, INDEX", desk -> desk.item(2, -1, -1, 9), BAD);
    }

    // ---- copies

    private static void holds(LessonDesk desk, int sheet, int... items) {
        for (int i = 0; i < items.length; i++) {
            Check.due("item " + i + " of SHEET " + sheet, told(desk, sheet, 2, i), items[i]);
        }
    }

    /** SHEETS 0 and 1 hold five and four ints. */
    private static LessonDesk two() {
        LessonDesk desk = new LessonDesk();
        Edge.put(desk, 0, 2, 101, 102, 103, 104, 105);
        Edge.put(desk, 1, 2, 201, 202, 203, 204);
        return desk;
    }

    private static void copied(int from, int i, int to, int j, int n, int... want) {
        LessonDesk desk = two();
        Check.due("copy(" + from + ", " + i + ", " + to + ", " + j + ", " + n + ")", desk.copy(from, i, to, j, n), n);
        holds(desk, to, want);
        if (from != to) {
            holds(desk, from, from == 0 ? new int[] {101, 102, 103, 104, 105} : new int[] {201, 202, 203, 204});
        }
    }

    private static void copy() {
        copied(0, 0, 1, 0, 4, 101, 102, 103, 104);
        copied(0, 1, 1, 0, 4, 102, 103, 104, 105);
        copied(0, 4, 1, 3, 1, 201, 202, 203, 105);
        copied(1, 0, 0, 1, 4, 101, 201, 202, 203, 204);
        copied(1, 0, 0, 0, 4, 201, 202, 203, 204, 105);
        // None: from the end on, to the end on.
        copied(0, 0, 1, 0, 0, 201, 202, 203, 204);
        copied(0, 5, 1, 4, 0, 201, 202, 203, 204);
        copied(1, 4, 0, 5, 0, 101, 102, 103, 104, 105);
        // The same SHEET: upward, downward, onto itself, all of it, none of it.
        copied(0, 0, 0, 1, 4, 101, 101, 102, 103, 104);
        copied(0, 1, 0, 0, 4, 102, 103, 104, 105, 105);
        copied(0, 0, 0, 2, 3, 101, 102, 101, 102, 103);
        copied(0, 2, 0, 0, 3, 103, 104, 105, 104, 105);
        copied(0, 1, 0, 1, 3, 101, 102, 103, 104, 105);
        copied(0, 0, 0, 0, 5, 101, 102, 103, 104, 105);
        copied(0, 5, 0, 5, 0, 101, 102, 103, 104, 105);
        // Rows of 40 and of none.
        LessonDesk desk = Edge.full();
        desk.sheet(1, 0, 40);
        Check.due("all 40", desk.copy(0, 0, 1, 0, 40), 40);
        Check.due("the last 39 to the first", desk.copy(0, 1, 1, 0, 39), 39);
        desk.sheet(1, 0, 0);
        Check.due("none to none", desk.copy(1, 0, 1, 0, 0), 0);
        Check.due("one from none", desk.copy(1, 0, 0, 0, 1), INDEX);
        Check.due("one to none", desk.copy(0, 0, 1, 0, 1), INDEX);
    }

    private static void refusedCopies() {
        Supplier<LessonDesk> two = SheetEdgesTest::two;
        int[][] beyond = {
            {-1, 0, 1}, {0, -1, 1}, {0, 0, -1}, {5, 0, 1}, {0, 4, 1}, {2, 0, 4}, {0, 1, 4}, {0, 0, 5}, {6, 0, 0}, {0, 5, 0},
            {-1, 0, 0}, {0, -1, 0}, {LEAST, 0, 1}, {0, LEAST, 1}, {0, 0, LEAST}, {MOST, 0, 1}, {0, MOST, 1}, {0, 0, MOST},
            {MOST, 0, 0}, {0, MOST, 0}, {LEAST, 0, 0}, {0, LEAST, 0}, {1, 1, MOST}, {MOST, MOST, MOST}, {LEAST, LEAST, LEAST},
            {MOST, 0, MOST}, {0, MOST, MOST}, {LEAST, 0, LEAST}, {1, 1, LEAST}
        };
        for (int[] b : beyond) {
            String name = "copy(0, " + b[0] + ", 1, " + b[1] + ", " + b[2] + ")";
            Edge.refused(name, two, desk -> desk.copy(0, b[0], 1, b[1], b[2]), INDEX);
            String same = "copy(1, " + b[0] + ", 1, " + b[1] + ", " + b[2] + ")";
            Edge.refused(same, two, desk -> desk.copy(1, b[0], 1, b[1], b[2]), INDEX);
        }
        Edge.none(BAD, (desk, v) -> desk.copy(v, 0, 0, 0, 1), -1, 4, LEAST, MOST);
        Edge.none(BAD, (desk, v) -> desk.copy(0, 0, v, 0, 1), -1, 4, LEAST, MOST);
        Edge.refused("from nothing", desk -> desk.copy(3, 0, 0, 0, 0), NULL);
        Edge.refused("to nothing", desk -> desk.copy(0, 0, 3, 0, 0), NULL);
        Edge.refused("nothing to nothing", desk -> desk.copy(3, 0, 3, 0, 0), NULL);
        for (int from = 0; from < 3; from++) {
            for (int to = 0; to < 3; to++) {
                int f = from;
                int t = to;
                if (f != t) {
                    Edge.refused(f + " to " + t, desk -> desk.copy(f, 0, t, 0, 1), CAST);
                    Edge.refused(f + " to " + t + ", none", desk -> desk.copy(f, 0, t, 0, 0), CAST);
                    Edge.refused("CAST ahead of INDEX", desk -> desk.copy(f, -1, t, 0, 1), CAST);
                    Edge.refused("CAST ahead of INDEX", desk -> desk.copy(f, 0, t, 41, 1), CAST);
                    Edge.refused("CAST ahead of INDEX", desk -> desk.copy(f, 0, t, 0, -1), CAST);
                }
            }
        }
        Edge.refused("BAD ahead of NULL", desk -> desk.copy(3, 0, 4, 0, -1), BAD);
        Edge.refused("BAD ahead of NULL", desk -> desk.copy(-1, 0, 3, 0, -1), BAD);
        Edge.refused("BAD ahead of INDEX", desk -> desk.copy(0, -1, 4, -1, -1), BAD);
        Edge.refused("NULL ahead of INDEX, from", desk -> desk.copy(3, -1, 0, -1, -1), NULL);
        Edge.refused("NULL ahead of INDEX, to", desk -> desk.copy(0, -1, 3, -1, -1), NULL);
    }
}
