/** Promises 8 to 18: learners, their answers, guesses, strange answers, hints. */
public final class LearnersTest {
    public static void main(String[] args) {
        learners();
        answers();
        answersFromSheets();
        asides();
        sets();
        points();
        guesses();
        counts();
        strange();
        allFull();
        hints();
        Check.end();
    }

    private static LessonDesk withLearners(int many) {
        LessonDesk desk = new LessonDesk();
        for (int i = 0; i < many; i++) {
            Check.due("learner", desk.learner(), i);
        }
        return desk;
    }

    private static void learners() {
        LessonDesk desk = withLearners(12);
        Check.due("a 13th learner", desk.learner(), LessonDesk.FULL);
        Check.due("the 12th learner", desk.count(11, 0), 0);
        Check.due("no 13th learner", desk.count(12, 0), LessonDesk.BAD);
    }

    private static void answers() {
        LessonDesk desk = withLearners(2);
        for (int i = 0; i < 40; i++) {
            Check.due("answer " + i, desk.answer(0, 500, i, i), i);
        }
        Check.due("a 41st answer", desk.answer(0, 500, 1, 1), LessonDesk.FULL);
        Check.due("a 41st, BAD first", desk.answer(0, 500, 501, 1), LessonDesk.BAD);
        Check.due("still 40", desk.count(0, 0), 40);
        Check.due("another's first", desk.answer(1, 999, 0, 999), 0);
        Check.due("no learner", desk.answer(2, 5, 5, 0), LessonDesk.BAD);
        Check.due("learner -1", desk.answer(-1, 5, 5, 0), LessonDesk.BAD);
        Check.due("no task", desk.answer(1, 5, 6, 0), LessonDesk.BAD);
        Check.due("answer 1000", desk.answer(1, 5, 5, 1000), LessonDesk.BAD);
        Check.due("answer -1", desk.answer(1, 5, 5, -1), LessonDesk.BAD);
        Check.due("none came of it", desk.count(1, 0), 1);
    }

    private static void answersFromSheets() {
        LessonDesk desk = withLearners(2);
        Check.fill(desk, 0, 2, 7, 52, 17, 45, 9, 3, 6, 9, 3, 1000);
        Check.due("two answers", desk.answers(0, 0, 2, 1, 2), 2);
        Check.due("one is right", desk.count(0, 2), 1);
        Check.due("FAULT 0 gives both", desk.points(0, 1), 15);
        Check.due("no answers", desk.answers(0, 0, 2, 0, 0), 2);
        Check.due("no answers from the end on", desk.answers(0, 0, 2, 10, 0), 2);
        Check.due("one is not as told", desk.answers(0, 0, 2, 1, 3), LessonDesk.NOT);
        Check.due("a task is not as told", desk.answers(0, 0, 2, 0, 1), LessonDesk.NOT);
        Check.due("none came of it", desk.count(0, 0), 2);
        Check.due("beyond the end", desk.answers(0, 0, 2, 2, 3), LessonDesk.INDEX);
        Check.due("far beyond", desk.answers(0, 0, 2, Integer.MAX_VALUE, 1), LessonDesk.INDEX);
        Check.due("ahead of the first", desk.answers(0, 0, 2, -1, 1), LessonDesk.INDEX);
        Check.due("another lane", desk.answers(0, 0, 1, -1, 1), LessonDesk.CAST);
        Check.due("nothing there", desk.answers(0, 1, 1, -1, 1), LessonDesk.NULL);
        Check.due("no learner", desk.answers(2, 1, 1, 0, 1), LessonDesk.BAD);
        Check.due("no sheet", desk.answers(0, 4, 1, 0, 1), LessonDesk.BAD);
        Check.due("no lane", desk.answers(0, 1, 3, 0, 1), LessonDesk.BAD);
        Check.due("n -1", desk.answers(0, 1, 2, 0, -1), LessonDesk.BAD);
        Check.due("n 14", desk.answers(0, 1, 2, 0, 14), LessonDesk.BAD);
        manyFromSheets(desk);
    }

    private static void manyFromSheets(LessonDesk desk) {
        Check.due("sheet of bytes", desk.sheet(2, 0, 40), 40);
        Check.due("13 answers", desk.answers(1, 2, 0, 1, 13), 13);
        Check.due("26 answers", desk.answers(1, 2, 0, 0, 13), 26);
        Check.due("39 answers", desk.answers(1, 2, 0, 0, 13), 39);
        Check.due("41 answers", desk.answers(1, 2, 0, 0, 2), LessonDesk.FULL);
        desk.item(2, 0, 5, -1);
        Check.due("41, NOT first", desk.answers(1, 2, 0, 0, 2), LessonDesk.NOT);
        Check.due("40 answers", desk.answers(1, 2, 0, 0, 1), 40);
        Check.due("no more", desk.answers(1, 2, 0, 0, 0), 40);
        Check.due("one more", desk.answers(1, 2, 0, 0, 1), LessonDesk.FULL);
        Check.due("all right", desk.count(1, 2), 40);
    }

    private static void asides() {
        LessonDesk desk = withLearners(1);
        Check.due("none to put aside", desk.aside(0, 0, true), LessonDesk.BAD);
        desk.answer(0, 52, 17, 35);
        desk.answer(0, 52, 17, 45);
        Check.due("it was not", desk.aside(0, 1, true), 0);
        Check.due("it was", desk.aside(0, 1, true), 1);
        Check.due("points of the rest", desk.points(0, 0), 10);
        Check.due("points of the rest", desk.points(0, 1), -25);
        Check.due("it was, and is back", desk.aside(0, 1, false), 1);
        Check.due("it was not", desk.aside(0, 1, false), 0);
        Check.due("points of both", desk.points(0, 0), -10);
        Check.due("points of both", desk.points(0, 1), -15);
        Check.due("answer 2", desk.aside(0, 2, true), LessonDesk.BAD);
        Check.due("answer -1", desk.aside(0, -1, true), LessonDesk.BAD);
        Check.due("no learner", desk.aside(1, 0, true), LessonDesk.BAD);
    }

    private static void sets() {
        LessonDesk desk = new LessonDesk();
        int[][] ranges = {{0, 0, 99, 10}, {1, 0, 99, 20}, {2, 0, 99, 5}, {3, 0, 999, 10}, {4, 1, 500, 50}};
        for (int[] r : ranges) {
            Check.due("below", desk.set(r[0], r[1] - 1), LessonDesk.BAD);
            Check.due("above", desk.set(r[0], r[2] + 1), LessonDesk.BAD);
            Check.due("at first", desk.set(r[0], r[1]), r[3]);
            Check.due("the least", desk.set(r[0], r[2]), r[1]);
            Check.due("the most", desk.set(r[0], 7), r[2]);
        }
        Check.due("what 5", desk.set(5, 7), LessonDesk.BAD);
        Check.due("what -1", desk.set(-1, 7), LessonDesk.BAD);
    }

    private static void points() {
        LessonDesk desk = withLearners(1);
        Check.due("nothing yet", desk.points(0, 0), 0);
        Check.due("three faults", desk.points(0, 7), -15);
        Check.due("four faults", desk.points(0, 15), -100001);
        Check.due("no bits", desk.points(0, 256), -100001);
        Check.due("below 0", desk.points(0, -1), -100001);
        Check.due("no learner", desk.points(1, 0), -100001);
        desk.answer(0, 52, 17, 45);
        desk.answer(0, 9, 3, 6);
        Check.due("one of two", desk.points(0, 0), -10);
        Check.due("two of two", desk.points(0, 3), 10);
        desk.set(0, 7);
        desk.set(1, 3);
        desk.set(2, 1);
        Check.due("one of two", desk.points(0, 0), 4);
        Check.due("two of two", desk.points(0, 3), 12);
    }

    private static void guesses() {
        LessonDesk desk = withLearners(2);
        Check.due("not sure", desk.guess(0), LessonDesk.OPEN);
        Check.due("lead by one fault", desk.lead(0), 5);
        desk.set(3, 5);
        Check.due("just sure", desk.guess(0), 0);
        desk.set(3, 6);
        Check.due("just not", desk.guess(0), LessonDesk.OPEN);
        desk.set(2, 0);
        desk.set(3, 0);
        Check.due("of like ones the first", desk.guess(0), 0);
        Check.due("like ones", desk.lead(0), 0);
        desk.set(2, 5);
        // 45 is given by FAULT 0 and by FAULT 1.
        desk.answer(0, 52, 17, 45);
        Check.due("two give it", desk.lead(0), 0);
        Check.due("the first of them", desk.guess(0), 1);
        // The tens part them: 304 less 199 is 295 by FAULT 0, 215 by FAULT 1.
        desk.answer(0, 304, 199, 215);
        Check.due("FAULT 1", desk.guess(0), 2);
        Check.due("ahead of FAULTS 1 and 2 ..", desk.lead(0), 5);
        // Where a SET of one FAULT is the best, the right way may be the next.
        desk.set(0, 2);
        desk.set(1, 0);
        desk.set(2, 3);
        desk.answer(1, 52, 17, 45);
        desk.answer(1, 304, 199, 215);
        Check.due("FAULT 1 by a little", desk.guess(1), 2);
        Check.due("ahead of the right way", desk.lead(1), 1);
        desk.aside(1, 0, true);
        desk.aside(1, 1, true);
        desk.answer(1, 304, 199, 295);
        desk.answer(1, 52, 17, 45);
        Check.due("FAULT 0", desk.guess(1), 1);
        Check.due("ahead of the right way", desk.lead(1), 1);
        desk.aside(1, 2, true);
        desk.aside(1, 3, true);
        Check.due("another's", desk.guess(1), 0);
        Check.due("no learner", desk.guess(2), LessonDesk.BAD);
        Check.due("no learner", desk.lead(2), LessonDesk.BAD);
        Check.due("learner -1", desk.lead(-1), LessonDesk.BAD);
    }

    private static void counts() {
        LessonDesk desk = withLearners(2);
        desk.answer(0, 9, 3, 779);
        desk.answer(0, 52, 17, 35);
        desk.answer(0, 52, 17, 45);
        desk.answer(0, 9, 3, 777);
        desk.answer(0, 9, 3, 778);
        desk.answer(0, 10, 10, 0);
        desk.aside(0, 3, true);
        desk.aside(0, 5, true);
        int[] want = {6, 2, 1, 2};
        for (int what = 0; what < 4; what++) {
            Check.due("count " + what, desk.count(0, what), want[what]);
            Check.due("count of another", desk.count(1, what), 0);
            Check.due("no learner", desk.count(2, what), LessonDesk.BAD);
        }
        Check.due("what 4", desk.count(0, 4), LessonDesk.BAD);
        Check.due("what -1", desk.count(0, -1), LessonDesk.BAD);
    }

    private static void isStrange(LessonDesk desk, int... want) {
        for (int what = 0; what < 4; what++) {
            Check.due("strange " + what, desk.strange(what), want.length == 4 ? want[what] : LessonDesk.NONE);
        }
    }

    private static void strange() {
        LessonDesk desk = withLearners(3);
        isStrange(desk);
        desk.answer(0, 52, 17, 45);
        isStrange(desk);
        desk.answer(0, 90, 3, 777);
        isStrange(desk, 1, 90, 3, 777);
        desk.answer(1, 90, 2, 778);
        isStrange(desk, 1, 90, 2, 778);
        desk.answer(1, 90, 2, 777);
        isStrange(desk, 1, 90, 2, 777);
        desk.answer(2, 80, 5, 999);
        isStrange(desk, 1, 80, 5, 999);
        desk.answer(2, 90, 3, 777);
        isStrange(desk, 2, 90, 3, 777);
        desk.answer(2, 90, 3, 777);
        isStrange(desk, 3, 90, 3, 777);
        desk.aside(2, 1, true);
        desk.aside(0, 1, true);
        isStrange(desk, 1, 80, 5, 999);
        desk.aside(2, 1, false);
        isStrange(desk, 2, 90, 3, 777);
        for (int i = 0; i < 3; i++) {
            desk.answer(0, 999, 999, 999);
            isStrange(desk, i < 2 ? 2 : 3, i < 2 ? 90 : 999, i < 2 ? 3 : 999, i < 2 ? 777 : 999);
        }
        for (int i = 0; i < 3; i++) {
            desk.answer(1, 999, 0, 1);
        }
        isStrange(desk, 3, 999, 0, 1);
        Check.due("what 4", desk.strange(4), LessonDesk.BAD);
        Check.due("what -1", desk.strange(-1), LessonDesk.BAD);
        Check.due("BAD first", new LessonDesk().strange(4), LessonDesk.BAD);
    }

    /** 12 LEARNERS with 40 STRANGE ANSWERS each: nothing is beyond any row. */
    private static void allFull() {
        LessonDesk desk = withLearners(12);
        desk.sheet(0, 1, 30);
        for (int item = 0; item < 10; item++) {
            desk.item(0, 1, 3 * item, 9);
            desk.item(0, 1, 3 * item + 2, 700 + item);
        }
        for (int who = 0; who < 12; who++) {
            for (int i = 1; i <= 4; i++) {
                Check.due("answers", desk.answers(who, 0, 1, 0, 10), 10 * i);
            }
            Check.due("all strange", desk.count(who, 3), 40);
        }
        isStrange(desk, 48, 9, 0, 700);
        Check.due("skills for all", Check.skills(desk, "a=1/1"), 1);
        Check.due("the last one's", desk.exercise(11, 0, 9999, true), 16);
        Check.due("skills anew", Check.skills(desk, "a=1/1"), 1);
        Check.due("forgotten", desk.exercise(11, 0, 0, true), 16);
    }

    private static void hint(LessonDesk desk, int much, int less, int written, int many, int want) {
        Check.due("hint(" + much + ", " + less + ", " + written + ", " + many + ")",
            desk.hint(much, less, written, many), want);
    }

    private static void hints() {
        LessonDesk desk = new LessonDesk();
        hint(desk, 52, 17, 1, 0, LessonDesk.BAD);
        hint(desk, 52, 17, 0, 0, LessonDesk.OPEN);
        hint(desk, 52, 17, 0, 0, 5);
        hint(desk, 52, 17, 5, 1, 3);
        hint(desk, 52, 17, 35, 2, 0);
        hint(desk, 52, 17, 4, 1, LessonDesk.NOT);
        hint(desk, 52, 17, 45, 2, LessonDesk.NOT);
        hint(desk, 52, 17, 34, 2, LessonDesk.NOT);
        hint(desk, 52, 17, 5, 2, LessonDesk.NOT);
        hint(desk, 52, 17, 35, 2, 0);
        // NOT and OPEN were asked for: the next one for the TASK is given.
        hint(desk, 800, 195, 4, 1, LessonDesk.NOT);
        hint(desk, 800, 195, 5, 2, 6);
        hint(desk, 801, 195, 6, 1, LessonDesk.OPEN);
        hint(desk, 800, 195, 5, 1, LessonDesk.OPEN);
        hint(desk, 800, 195, 5, 1, 0);
        // The same difference is not the same TASK.
        hint(desk, 801, 196, 5, 1, LessonDesk.OPEN);
        // What is BAD is not the hint() ahead.
        hint(desk, 801, 196, 10, 1, LessonDesk.BAD);
        hint(desk, 700, 1, 100, 2, LessonDesk.BAD);
        hint(desk, 700, 1, -1, 2, LessonDesk.BAD);
        hint(desk, 700, 1, 0, 3, LessonDesk.BAD);
        hint(desk, 700, 1, 0, -1, LessonDesk.BAD);
        hint(desk, 700, 701, 0, 0, LessonDesk.BAD);
        hint(desk, 801, 196, 5, 1, 0);
        hint(desk, 800, 206, 94, 2, LessonDesk.OPEN);
        hint(desk, 800, 206, 94, 2, 5);
        hint(desk, 999, 0, 99, 2, LessonDesk.OPEN);
        hint(desk, 999, 0, 99, 2, 9);
        hint(desk, 999, 0, 9, 1, 9);
    }
}
