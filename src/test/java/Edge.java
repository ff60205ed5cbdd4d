import java.nio.file.Files;
import java.nio.file.Path;
import java.util.function.Supplier;

/**
 * For tests of the document's sentences that name a boundary. Each such test bears the words that
 * it looks at, and these must stand in the document: so a sentence that changes there is missed here.
 */
final class Edge {
    interface Call {
        int on(LessonDesk desk);
    }

    /** A call of which one number is tried. */
    interface Numbered {
        int on(LessonDesk desk, int v);
    }

    private static final int LEAST = Integer.MIN_VALUE;
    private static final int MOST = Integer.MAX_VALUE;
    private static String document = "";

    private Edge() {
    }

    /** One test, named by words of the document. */
    static void test(String words, Runnable body) {
        Check.about(words);
        Check.due("these words stand in the document", stands(words));
        int before = Check.checks();
        try {
            body.run();
        } catch (RuntimeException e) {
            e.printStackTrace(System.out);
            Check.due("it ends without " + e, false);
        }
        Check.due("something was looked at", Check.checks() > before);
        Check.about("");
    }

    /** Whether words stand in the document; where it can't be read, that is told, and no test fails for it. */
    private static boolean stands(String words) {
        if (document.isEmpty()) {
            Path file = Path.of(System.getProperty("root", ".")).resolve("../shared/DOC.md");
            try {
                document = plain(Files.readString(file));
            } catch (java.io.IOException e) {
                System.out.println("the words are not looked up: no " + file);
                return true;
            }
        }
        return document.contains(plain(words));
    }

    private static String plain(String text) {
        return text.replace("`", "").replaceAll("\\s+", " ").trim();
    }

    // ---- desks

    /** A desk in the midst of its work: something of everything, and room for more of all. */
    static LessonDesk busy() {
        LessonDesk desk = new LessonDesk();
        for (int i = 0; i < 3; i++) {
            desk.learner();
        }
        desk.answer(0, 52, 17, 45);
        desk.answer(0, 304, 199, 215);
        desk.answer(0, 83, 25, 62);
        desk.answer(0, 900, 1, 777);
        desk.aside(0, 2, true);
        desk.answer(1, 41, 41, 0);
        desk.answer(1, 900, 1, 778);
        int[] marks = {11, 21, 6, 4, 60};
        for (int what = 0; what < marks.length; what++) {
            desk.set(what, marks[what]);
        }
        desk.hint(52, 17, 0, 0);
        Check.skills(desk, "a=3/10;b=4/20:a;d=2/8");
        Check.type(desk, "a=5/9;b");
        desk.exercise(0, 0, 50, true);
        desk.exercise(0, 1, 60, false);
        desk.exercise(0, 1, 60, true);
        desk.exercise(1, 3, 10, true);
        desk.exercise(2, 0, 7, false);
        int[][] dealt = {{0, 3}, {1, 5}, {1, -9}, {0, 2}};
        for (int[] d : dealt) {
            desk.deal(d[0], d[1]);
        }
        put(desk, 0, 0, 11, 12, 13, 14);
        put(desk, 1, 1, 201, 202, 203, 204, 205);
        put(desk, 2, 2, 52, 17, 35, 101, 102, 103);
        return desk;
    }

    /** A desk on which all is full: LEARNERS, the ANSWERS of LEARNER 0, THE TAPE, the TRIAL, SHEETS. */
    static LessonDesk full() {
        LessonDesk desk = new LessonDesk();
        for (int i = 0; i < 12; i++) {
            desk.learner();
        }
        for (int i = 0; i < 40; i++) {
            desk.answer(0, 900, i, 900 - i);
        }
        Check.type(desk, "a=5/9" + " ".repeat(95));
        for (int i = 0; i < 12; i++) {
            desk.deal(i % 2, i);
        }
        for (int sheet = 0; sheet < 4; sheet++) {
            desk.sheet(sheet, sheet % 3, 40);
            desk.item(sheet, sheet % 3, 0, 9);
            desk.item(sheet, sheet % 3, 39, 101);
        }
        return desk;
    }

    /** A SHEET holds these items, without a look at what the calls answer. */
    static void put(LessonDesk desk, int sheet, int lane, int... items) {
        desk.sheet(sheet, lane, items.length);
        for (int i = 0; i < items.length; i++) {
            desk.item(sheet, lane, i, items[i]);
        }
    }

    // ---- numbers

    /** From least to most a number is taken; one beyond either, and the ends of int, are refused. */
    static void range(int least, int answerToLeast, int most, int answerToMost, int refusal, Numbered call) {
        Check.due("with the least, " + least + ", it", call.on(busy(), least), answerToLeast);
        Check.due("with the most, " + most + ", it", call.on(busy(), most), answerToMost);
        none(refusal, call, least - 1, most + 1, LEAST, MOST);
    }

    /** These numbers are refused, and change nothing. */
    static void none(int refusal, Numbered call, int... numbers) {
        none(Edge::busy, refusal, call, numbers);
    }

    static void none(Supplier<LessonDesk> made, int refusal, Numbered call, int... numbers) {
        for (int v : numbers) {
            refused("with " + v + " it", made, desk -> call.on(desk, v), refusal);
        }
    }

    // ---- what a refused call leaves

    static void refused(String name, Call call, int refusal) {
        refused(name, Edge::busy, call, refusal);
    }

    static void refused(String name, Supplier<LessonDesk> made, Call call, int refusal) {
        for (int look = 0; look < Look.MANY; look++) {
            LessonDesk touched = made.get();
            Check.due(name, call.on(touched), refusal);
            String got = Look.at(touched, look);
            String want = Look.at(made.get(), look);
            Check.due(name + " changes nothing; " + got + " is " + want, got.equals(want));
        }
    }
}
