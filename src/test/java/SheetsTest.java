/** Promises 31 to 34: sheet, drop, item, copy. What a sheet holds is seen by probe and answers. */
public final class SheetsTest {
    public static void main(String[] args) {
        sheets();
        drops();
        items();
        lowestBits();
        copies();
        overlaps();
        badCopies();
        Check.end();
    }

    private static void sheets() {
        LessonDesk desk = new LessonDesk();
        Check.due("sheet 4", desk.sheet(4, 0, 1), LessonDesk.BAD);
        Check.due("sheet -1", desk.sheet(-1, 0, 1), LessonDesk.BAD);
        Check.due("lane 3", desk.sheet(0, 3, 1), LessonDesk.BAD);
        Check.due("lane -1", desk.sheet(0, -1, 1), LessonDesk.BAD);
        Check.due("n 41", desk.sheet(0, 0, 41), LessonDesk.BAD);
        Check.due("BAD first", desk.sheet(4, 0, -1), LessonDesk.BAD);
        Check.due("n -1", desk.sheet(0, 0, -1), LessonDesk.SIZE);
        Check.due("n far below", desk.sheet(0, 0, Integer.MIN_VALUE), LessonDesk.SIZE);
        Check.due("nothing yet", desk.drop(0), LessonDesk.NULL);
        Check.due("n 0", desk.sheet(0, 0, 0), 0);
        Check.due("n 40", desk.sheet(3, 2, 40), 40);
        Check.due("a refused one changes nothing", desk.sheet(3, 0, -1), LessonDesk.SIZE);
        Check.due("the last item", desk.item(3, 2, 39, 1), 1);
        // A new row is 0 everywhere, whatever was there.
        desk.item(3, 2, 0, 256);
        Check.due("a new row", desk.sheet(3, 2, 3), 3);
        Check.due("0 at first", desk.probe(9, 3, 2, 0, 1), 0);
        Check.due("shorter", desk.item(3, 2, 3, 1), LessonDesk.INDEX);
        Check.due("another lane", desk.sheet(3, 1, 3), 3);
        Check.due("of that lane", desk.item(3, 2, 0, 1), LessonDesk.CAST);
    }

    private static void drops() {
        LessonDesk desk = new LessonDesk();
        desk.sheet(1, 1, 7);
        desk.sheet(2, 1, 0);
        Check.due("drop 7", desk.drop(1), 7);
        Check.due("nothing more", desk.drop(1), LessonDesk.NULL);
        Check.due("no row to write", desk.item(1, 1, 0, 0), LessonDesk.NULL);
        Check.due("a row of none", desk.drop(2), 0);
        Check.due("sheet 4", desk.drop(4), LessonDesk.BAD);
        Check.due("sheet -1", desk.drop(-1), LessonDesk.BAD);
    }

    private static void items() {
        LessonDesk desk = new LessonDesk();
        desk.sheet(0, 0, 2);
        desk.sheet(1, 1, 2);
        desk.sheet(2, 2, 2);
        for (int sheet = 0; sheet < 4; sheet++) {
            for (int lane = 0; lane < 3; lane++) {
                int fits = sheet == 3 ? LessonDesk.NULL : lane == sheet ? 1 : LessonDesk.CAST;
                int beyond = fits == 1 ? LessonDesk.INDEX : fits;
                Check.due("item 1", desk.item(sheet, lane, 1, 5), fits);
                Check.due("item 2", desk.item(sheet, lane, 2, 5), beyond);
                Check.due("item -1", desk.item(sheet, lane, -1, 5), beyond);
                Check.due("item far", desk.item(sheet, lane, Integer.MAX_VALUE, 5), beyond);
            }
            Check.due("lane 3", desk.item(sheet, 3, 0, 5), LessonDesk.BAD);
            Check.due("lane -1", desk.item(sheet, -1, 0, 5), LessonDesk.BAD);
        }
        Check.due("sheet 4", desk.item(4, 0, 0, 5), LessonDesk.BAD);
        Check.due("sheet -1", desk.item(-1, 0, 0, 5), LessonDesk.BAD);
    }

    /** Whether item 0 is 0 .. 255 or not, and by MUCH of a strange ANSWER what it is. */
    private static void lowestBits() {
        int[][] cut = {
            {0, 127, 127}, {0, 128, -128}, {0, 256 + 9, 9}, {0, -1, -1}, {0, -250, 6},
            {1, 255, 255}, {1, 32768, -32768}, {1, 65536 + 9, 9}, {1, 65535, -1}, {1, -65500, 36},
            {2, 65536 + 9, 65545}, {2, 9, 9}, {2, Integer.MIN_VALUE, Integer.MIN_VALUE}
        };
        for (int[] c : cut) {
            LessonDesk desk = new LessonDesk();
            desk.learner();
            Check.fill(desk, 0, c[0], c[1], 0, 9);
            boolean isSet = c[2] >= 0 && c[2] <= 255;
            Check.due("probe of " + c[1], desk.probe(3, 0, c[0], 0, 1), isSet ? 0 : LessonDesk.NOT);
            Check.due("answer of " + c[1], desk.answers(0, 0, c[0], 0, 1), isSet ? 1 : LessonDesk.NOT);
            int right = c[2] == 9 ? 1 : 0;
            Check.due("right of " + c[1], desk.count(0, 2), isSet ? right : 0);
        }
    }

    /** The items of a sheet of ints, told by the answers 0 .. 999 that they are to 0 less 0. */
    private static void holds(LessonDesk desk, int sheet, int... items) {
        int who = desk.learner();
        for (int i = 0; i < items.length; i++) {
            desk.sheet(3, 2, 3);
            desk.copy(sheet, i, 3, 2, 1);
            desk.answers(who, 3, 2, 0, 1);
            Check.due("item " + i + " of sheet " + sheet, desk.strange(3), items[i]);
            desk.aside(who, i, true);
        }
    }

    private static void copies() {
        LessonDesk desk = new LessonDesk();
        Check.fill(desk, 0, 2, 101, 102, 103, 104, 105);
        Check.fill(desk, 1, 2, 201, 202, 203, 204);
        Check.due("copy", desk.copy(0, 1, 1, 2, 2), 2);
        holds(desk, 1, 201, 202, 102, 103);
        holds(desk, 0, 101, 102, 103, 104, 105);
        Check.due("none", desk.copy(0, 5, 1, 4, 0), 0);
        Check.due("none within", desk.copy(0, 2, 1, 0, 0), 0);
        Check.due("all", desk.copy(1, 0, 0, 1, 4), 4);
        holds(desk, 0, 101, 201, 202, 102, 103);
    }

    private static void overlaps() {
        LessonDesk desk = new LessonDesk();
        Check.fill(desk, 0, 2, 101, 102, 103, 104, 105);
        Check.due("upward", desk.copy(0, 0, 0, 1, 4), 4);
        holds(desk, 0, 101, 101, 102, 103, 104);
        Check.due("downward", desk.copy(0, 1, 0, 0, 4), 4);
        holds(desk, 0, 101, 102, 103, 104, 104);
    }

    private static void badCopies() {
        LessonDesk desk = new LessonDesk();
        desk.sheet(0, 1, 5);
        desk.sheet(1, 1, 4);
        desk.sheet(2, 2, 5);
        Check.due("from 4", desk.copy(4, 0, 3, 0, 1), LessonDesk.BAD);
        Check.due("to -1", desk.copy(3, 0, -1, 0, 1), LessonDesk.BAD);
        Check.due("from nothing", desk.copy(3, 0, 0, 0, 1), LessonDesk.NULL);
        Check.due("to nothing", desk.copy(0, 0, 3, 0, -1), LessonDesk.NULL);
        Check.due("unlike lanes", desk.copy(0, 0, 2, 0, 1), LessonDesk.CAST);
        Check.due("unlike lanes first", desk.copy(0, 9, 2, 0, -1), LessonDesk.CAST);
        int[][] beyond = {
            {-1, 0, 1}, {0, -1, 1}, {0, 0, -1}, {4, 0, 2}, {0, 3, 2}, {0, 0, 5}, {6, 0, 0}, {0, 5, 0},
            {Integer.MAX_VALUE, 0, 1}, {1, 1, Integer.MAX_VALUE}, {0, Integer.MIN_VALUE, 0}
        };
        for (int[] b : beyond) {
            Check.due("copy(0, " + b[0] + ", 1, " + b[1] + ", " + b[2] + ")",
                desk.copy(0, b[0], 1, b[1], b[2]), LessonDesk.INDEX);
        }
        Check.due("all that fit", desk.copy(0, 1, 1, 0, 4), 4);
    }
}
