import java.util.function.Supplier;

/** The boundaries that part 2 of the terms and promises 8 to 18 name: LEARNERS, GUESSES, HINTS. */
public final class LearnerEdgesTest {
    private static final int BAD = LessonDesk.BAD, NOT = LessonDesk.NOT, FULL = LessonDesk.FULL;
    private static final int NONE = LessonDesk.NONE, OPEN = LessonDesk.OPEN;
    private static final int NULL = LessonDesk.NULL, CAST = LessonDesk.CAST, INDEX = LessonDesk.INDEX;
    private static final int LEAST = Integer.MIN_VALUE, MOST = Integer.MAX_VALUE;
    private static final int FAR_BAD = -100001;

    public static void main(String[] args) {
        Edge.test("LEARNERS 0 .. 11, as they come", LearnerEdgesTest::learnersAsTheyCome);
        Edge.test("give ANSWERS (40 each at most), numbered as they come", LearnerEdgesTest::fortyAnswers);
        Edge.test("A LEARNER: the number. FULL: 12.", LearnerEdgesTest::learner);
        Edge.test("An ANSWER to a TASK: its number. BAD; FULL: 40.", LearnerEdgesTest::answer);
        answers();
        Edge.test("An ANSWER is ASIDE (appealed), or not: whether it was (1, 0). BAD.", LearnerEdgesTest::aside);
        marks();
        points();
        guesses();
        Edge.test("How many of a LEARNER's ANSWERS: 0 all, 1 ASIDE, 2 right (not ASIDE), 3 STRANGE (not ASIDE). BAD.",
            LearnerEdgesTest::count);
        strange();
        hints();
        Check.end();
    }

    private static void learnersAsTheyCome() {
        LessonDesk desk = new LessonDesk();
        for (int number = 0; number < 12; number++) {
            Check.due("not there yet", desk.count(number, 0), BAD);
            Check.due("its number", desk.learner(), number);
            Check.due("nothing of it yet", desk.count(number, 0), 0);
        }
        Check.due("never there", desk.count(12, 0), BAD);
        // Each call takes LEARNERS 0 .. 2 of three.
        Edge.range(0, 4, 2, 0, BAD, (busy, v) -> busy.answer(v, 5, 5, 0));
        Edge.range(0, 5, 2, 1, BAD, (busy, v) -> busy.answers(v, 2, 2, 0, 1));
        Edge.range(0, -5, 2, -6, FAR_BAD, (busy, v) -> busy.points(v, 2));
        Edge.range(0, 2, 2, 0, BAD, LessonDesk::guess);
        Edge.range(0, 6, 2, 6, BAD, LessonDesk::lead);
        Edge.range(0, 4, 2, 0, BAD, (busy, v) -> busy.count(v, 0));
    }

    private static void fortyAnswers() {
        LessonDesk desk = new LessonDesk();
        desk.learner();
        desk.learner();
        for (int number = 0; number < 40; number++) {
            Check.due("its number", desk.answer(1, 999, number, 0), number);
            Check.due("how many", desk.count(1, 0), number + 1);
        }
        Check.due("no more", desk.answer(1, 999, 0, 0), FULL);
        Check.due("those of another", desk.answer(0, 999, 0, 0), 0);
        Check.due("the last one", desk.aside(1, 39, true), 0);
        // What is ASIDE still counts among the 40.
        Check.due("no more", desk.answer(1, 999, 0, 0), FULL);
    }

    private static void learner() {
        Check.due("the fourth", Edge.busy().learner(), 3);
        LessonDesk desk = new LessonDesk();
        for (int number = 0; number < 12; number++) {
            Check.due("its number", desk.learner(), number);
        }
        Edge.refused("the 13th", Edge::full, LessonDesk::learner, FULL);
        Edge.refused("the 13th, again", Edge::full, full -> Math.max(full.learner(), full.learner()), FULL);
    }

    private static void answer() {
        Edge.range(0, 4, 999, 4, BAD, (desk, v) -> desk.answer(0, 999, 0, v));
        Edge.range(0, 4, 999, 4, BAD, (desk, v) -> desk.answer(0, 999, v, 0));
        Edge.range(500, 4, 999, 4, BAD, (desk, v) -> desk.answer(0, v, 500, 0));
        Edge.none(BAD, (desk, v) -> desk.answer(0, v, v, 0), -1, 1000, LEAST, MOST);
        Edge.none(BAD, (desk, v) -> desk.answer(v, 5, 5, 0), -1, 3, 12, LEAST, MOST);
        Edge.refused("the 41st", Edge::full, desk -> desk.answer(0, 5, 5, 0), FULL);
        Edge.refused("the 41st, no task: BAD first", Edge::full, desk -> desk.answer(0, 5, 6, 0), BAD);
        Edge.refused("the 41st, no answer: BAD first", Edge::full, desk -> desk.answer(0, 5, 5, 1000), BAD);
        Edge.none(Edge::full, BAD, (desk, v) -> desk.answer(v, 5, 5, 0), -1, 12, LEAST, MOST);
        Check.due("LEARNER 11 of twelve", Edge.full().answer(11, 5, 5, 0), 0);
    }

    // ---- answers from a sheet

    /** A full desk, but for LEARNER 2 with as many ANSWERS; SHEET 0 holds 40 bytes, which are 9, 0 .., 101. */
    private static Supplier<LessonDesk> withAnswers(int many) {
        return () -> {
            LessonDesk desk = Edge.full();
            for (int i = 0; i < many; i++) {
                desk.answer(2, 7, 0, 7);
            }
            return desk;
        };
    }

    private static LessonDesk withItems(int... items) {
        LessonDesk desk = Edge.busy();
        Edge.put(desk, 2, 2, items);
        return desk;
    }

    private static void answers() {
        Edge.test("n ANSWERS (0 .. 13) from a SHEET", () -> {
            Check.due("none", Edge.full().answers(1, 0, 0, 0, 0), 0);
            Check.due("thirteen", Edge.full().answers(1, 0, 0, 0, 13), 13);
            Check.due("none more", withAnswers(5).get().answers(2, 0, 0, 0, 0), 5);
            Check.due("none more of 40", Edge.full().answers(0, 0, 0, 0, 0), 40);
            Edge.none(Edge::full, BAD, (desk, v) -> desk.answers(1, 0, 0, 0, v), -1, 14, LEAST, MOST);
        });
        Edge.test("from item i on: MUCH, LESS, ANSWER of each: how many there are", () -> {
            LessonDesk desk = withItems(7, 52, 17, 35, 900, 2, 779);
            Check.due("two", desk.answers(2, 2, 2, 1, 2), 2);
            Check.due("one is right", desk.count(2, 2), 1);
            Check.due("one is STRANGE", desk.count(2, 3), 1);
            Check.due("one more", desk.answers(2, 2, 2, 4, 1), 3);
            Check.due("the STRANGE one, twice", desk.strange(0), 2);
            Check.due("its ANSWER", desk.strange(3), 779);
            // What is ahead of item i and behind the last one is not looked at.
            Check.due("one of three", withItems(5, 6, 1000, 52, 17, 35, -1, -1, -1).answers(2, 2, 2, 3, 1), 1);
            // The last three items, and what is beyond them.
            Check.due("up to the end", Edge.busy().answers(2, 0, 0, 1, 1), NOT);
            Edge.none(INDEX, (busy, v) -> busy.answers(2, 0, 0, v, 1), -1, 2, 3, 4, LEAST, MOST);
            Check.due("13 from 1 on", Edge.full().answers(1, 0, 0, 1, 13), 13);
            Edge.none(Edge::full, INDEX, (full, v) -> full.answers(1, 0, 0, v, 13), -1, 2, LEAST, MOST);
            // None at all may come from the end on, but not from beyond it.
            Check.due("none from the end on", Edge.full().answers(1, 0, 0, 40, 0), 0);
            Edge.none(Edge::full, INDEX, (full, v) -> full.answers(1, 0, 0, v, 0), -1, 41, LEAST, MOST);
        });
        Edge.test("NOT: one is not as told; FULL.", LearnerEdgesTest::notOrFull);
        Edge.test("BAD; NULL; CAST; INDEX; NOT: one is not as told; FULL.", LearnerEdgesTest::refusedAnswers);
    }

    private static void notOrFull() {
        int[][] taken = {{0, 0, 0}, {999, 0, 0}, {999, 999, 0}, {0, 0, 999}};
        for (int[] t : taken) {
            Check.due("taken", withItems(t).answers(2, 2, 2, 0, 1), 1);
        }
        int[][] not = {
            {-1, 0, 0}, {-1, -1, 0}, {1000, 0, 0}, {1000, 1000, 0}, {5, 6, 0}, {5, -1, 0}, {5, 5, -1}, {5, 5, 1000},
            {LEAST, 0, 0}, {MOST, 0, 0}, {5, LEAST, 0}, {5, MOST, 0}, {5, 5, LEAST}, {5, 5, MOST}
        };
        for (int[] n : not) {
            String name = n[0] + ", " + n[1] + ", " + n[2];
            // As the first and as the last of two: none of the two comes.
            Supplier<LessonDesk> first = () -> withItems(n[0], n[1], n[2], 52, 17, 45);
            Supplier<LessonDesk> last = () -> withItems(52, 17, 45, n[0], n[1], n[2]);
            Edge.refused("first " + name, first, desk -> desk.answers(1, 2, 2, 0, 2), NOT);
            Edge.refused("last " + name, last, desk -> desk.answers(1, 2, 2, 0, 2), NOT);
            Check.due("without the last", last.get().answers(2, 2, 2, 0, 1), 1);
        }
        Check.due("the call that fills it", withAnswers(27).get().answers(2, 0, 0, 3, 12), 39);
        Check.due("the call that fills it", withAnswers(28).get().answers(2, 0, 0, 3, 12), 40);
        Edge.refused("one too many", withAnswers(29), desk -> desk.answers(2, 0, 0, 3, 12), FULL);
        Check.due("the call that fills it", withAnswers(39).get().answers(2, 0, 0, 3, 1), 40);
        Edge.refused("one too many", withAnswers(39), desk -> desk.answers(2, 0, 0, 3, 2), FULL);
        Edge.refused("full already", Edge::full, desk -> desk.answers(0, 0, 0, 3, 1), FULL);
    }

    private static void refusedAnswers() {
        Edge.none(BAD, (desk, v) -> desk.answers(v, 2, 2, 0, 1), -1, 3, 12, LEAST, MOST);
        Edge.none(BAD, (desk, v) -> desk.answers(0, v, 2, 0, 1), -1, 4, LEAST, MOST);
        Edge.none(BAD, (desk, v) -> desk.answers(0, 2, v, 0, 1), -1, 3, LEAST, MOST);
        Edge.refused("nothing there", desk -> desk.answers(0, 3, 2, 0, 1), NULL);
        Edge.refused("nothing there, none wanted", desk -> desk.answers(0, 3, 2, 0, 0), NULL);
        Edge.refused("shorts as ints", desk -> desk.answers(0, 1, 2, 0, 1), CAST);
        Edge.refused("ints as shorts, none wanted", desk -> desk.answers(0, 2, 1, 0, 0), CAST);
        // SHEET 3 holds nothing: BAD ahead of NULL, whichever number it is.
        Edge.refused("no learner", desk -> desk.answers(3, 3, 2, -1, 1), BAD);
        Edge.refused("no lane", desk -> desk.answers(0, 3, 3, -1, 1), BAD);
        Edge.refused("n", desk -> desk.answers(0, 3, 2, -1, 14), BAD);
        Edge.refused("BAD ahead of CAST", desk -> desk.answers(0, 1, 2, -1, 14), BAD);
        Edge.refused("BAD ahead of INDEX", desk -> desk.answers(0, 2, 2, -1, -1), BAD);
        Edge.refused("BAD ahead of NOT", desk -> desk.answers(3, 2, 2, 3, 1), BAD);
        Edge.refused("BAD ahead of FULL", Edge::full, desk -> desk.answers(0, 0, 3, 3, 1), BAD);
        Edge.refused("NULL ahead of INDEX", desk -> desk.answers(0, 3, 2, -1, 1), NULL);
        Edge.refused("NULL ahead of FULL", () -> {
            LessonDesk desk = Edge.full();
            desk.drop(3);
            return desk;
        }, desk -> desk.answers(0, 3, 0, 3, 1), NULL);
        Edge.refused("CAST ahead of INDEX", desk -> desk.answers(0, 1, 2, -1, 1), CAST);
        Edge.refused("CAST ahead of NOT", desk -> desk.answers(0, 2, 1, 3, 1), CAST);
        Edge.refused("CAST ahead of FULL", Edge::full, desk -> desk.answers(0, 0, 1, 3, 1), CAST);
        Edge.refused("INDEX ahead of NOT", desk -> desk.answers(0, 2, 2, 3, 2), INDEX);
        Edge.refused("INDEX ahead of FULL", Edge::full, desk -> desk.answers(0, 0, 0, 38, 1), INDEX);
        Edge.refused("NOT ahead of FULL", () -> {
            LessonDesk desk = Edge.full();
            desk.item(0, 0, 38, 9);
            return desk;
        }, desk -> desk.answers(0, 0, 0, 37, 1), NOT);
    }

    private static void aside() {
        LessonDesk desk = Edge.full();
        for (int number : new int[] {0, 39}) {
            Check.due("not ASIDE at first", desk.aside(0, number, false), 0);
            Check.due("still not", desk.aside(0, number, true), 0);
            Check.due("it was", desk.aside(0, number, true), 1);
            Check.due("it still was", desk.aside(0, number, false), 1);
            Check.due("it was not", desk.aside(0, number, false), 0);
        }
        Edge.none(Edge::full, BAD, (full, v) -> full.aside(0, v, true), -1, 40, LEAST, MOST);
        Edge.none(BAD, (busy, v) -> busy.aside(0, v, true), -1, 4, LEAST, MOST);
        Edge.none(BAD, (busy, v) -> busy.aside(2, v, true), -1, 0, LEAST, MOST);
        Edge.none(BAD, (busy, v) -> busy.aside(v, 0, true), -1, 3, 12, LEAST, MOST);
        Edge.none(BAD, (busy, v) -> busy.aside(v, v, false), -1, 12, LEAST, MOST);
    }

    // ---- GAIN, LOSS, COST, SURE, LEVEL

    private static void mark(int what, int least, int most, int first) {
        Check.due("at first", new LessonDesk().set(what, least), first);
        LessonDesk desk = new LessonDesk();
        desk.set(what, least);
        Check.due("the least is taken", desk.set(what, most), least);
        Check.due("the most is taken", desk.set(what, least), most);
        Edge.none(BAD, (busy, v) -> busy.set(what, v), least - 1, most + 1, LEAST, MOST);
    }

    private static void marks() {
        Edge.test("GAIN (0 .. 99; 10 at first)", () -> mark(0, 0, 99, 10));
        Edge.test("less LOSS (0 .. 99; 20 at first)", () -> mark(1, 0, 99, 20));
        Edge.test("less COST (0 .. 99; 5 at first)", () -> mark(2, 0, 99, 5));
        Edge.test("SURE (0 .. 999; 10 at first)", () -> mark(3, 0, 999, 10));
        Edge.test("LEVEL (1 .. 500; 50 at first)", () -> mark(4, 1, 500, 50));
        Edge.test("GAIN (0), LOSS (1), COST (2), SURE (3), LEVEL (4): what it was. BAD.", () -> {
            Edge.range(0, 11, 4, 60, BAD, (desk, v) -> desk.set(v, 7));
            Edge.none(BAD, (desk, v) -> desk.set(v, v), -1, 5, LEAST, MOST);
        });
    }

    /** 500 less 1 is 499 by the right way alone, among all KNOWN SETS. */
    private static LessonDesk right(int many, int gain, int loss, int cost) {
        LessonDesk desk = new LessonDesk();
        desk.learner();
        for (int i = 0; i < many; i++) {
            desk.answer(0, 500, 1, 499);
        }
        desk.set(0, gain);
        desk.set(1, loss);
        desk.set(2, cost);
        return desk;
    }

    private static void points() {
        Edge.test("POINTS of a KNOWN SET for a LEARNER: for each ANSWER that is not ASIDE", () -> {
            Check.due("no ANSWER", right(0, 99, 99, 99).points(0, 0), 0);
            Check.due("no ANSWER, three FAULTS", right(0, 99, 99, 99).points(0, 7), -297);
            Check.due("one", right(1, 10, 20, 5).points(0, 0), 10);
            Check.due("one, by FAULT 0", right(1, 10, 20, 5).points(0, 1), -25);
            Check.due("the most of all", right(40, 99, 99, 99).points(0, 0), 3960);
            Check.due("the least of all", right(40, 99, 99, 99).points(0, 7), -4257);
            Check.due("for nothing", right(40, 0, 0, 0).points(0, 7), 0);
            LessonDesk desk = right(2, 10, 20, 5);
            desk.aside(0, 0, true);
            Check.due("one ASIDE", desk.points(0, 0), 10);
            desk.aside(0, 1, true);
            Check.due("all ASIDE", desk.points(0, 0), 0);
            desk.aside(0, 0, false);
            Check.due("one is back", desk.points(0, 0), 10);
        });
        Edge.test("POINTS of a KNOWN SET. BAD less 100000 (-100001): also no KNOWN one.", () -> {
            Edge.range(0, -21 * 3, 224, -21 * 3 - 18, FAR_BAD, (desk, v) -> desk.points(0, v));
            // Four FAULTS and more; bits beyond those of the FAULTS.
            Edge.none(FAR_BAD, (desk, v) -> desk.points(0, v), 15, 240, 255, 256, 257);
            Check.due("three FAULTS", Edge.busy().points(2, 7), -18);
            Edge.none(FAR_BAD, (desk, v) -> desk.points(v, 0), -1, 3, 12, LEAST, MOST);
            Edge.none(FAR_BAD, (desk, v) -> desk.points(v, v), -1, 15, 256, LEAST, MOST);
        });
    }

    private static void guesses() {
        Edge.test("the KNOWN SET with the most POINTS, of like ones the first in ORDER", () -> {
            LessonDesk desk = right(0, 10, 20, 0);
            desk.set(3, 0);
            Check.due("no ANSWER: all are like", desk.guess(0), 0);
            desk.answer(0, 52, 17, 45);
            Check.due("1 and 2 and more give 45", desk.guess(0), 1);
            desk.aside(0, 0, true);
            // By FAULT 7 alone, then by FAULT 3 and 4, of which FAULT 3 is enough.
            desk.answer(0, 100, 1, 299);
            Check.due("128 alone gives 299", desk.guess(0), 128);
            desk.aside(0, 1, true);
            desk.answer(0, 500, 1, 599);
            Check.due("8, and 24 and more, give 599", desk.guess(0), 8);
        });
        Edge.test("LEAD: its POINTS less those of the next best.", () -> {
            Check.due("all are like", right(0, 10, 20, 0).lead(0), 0);
            Check.due("by a FAULT", right(0, 10, 20, 5).lead(0), 5);
            Check.due("by an ANSWER", right(1, 10, 20, 0).lead(0), 30);
            Check.due("the most of all", right(40, 99, 99, 99).lead(0), 40 * 198 + 99);
            // The best one is 1, the second in ORDER, and the next best the first.
            LessonDesk second = right(0, 2, 0, 3);
            second.answer(0, 304, 199, 295);
            second.answer(0, 304, 199, 295);
            Check.due("the best is 1", second.points(0, 1), 1);
            Check.due("the next best is 0", second.points(0, 0), 0);
            Check.due("by a point", second.lead(0), 1);
            // What is ASIDE does not lead.
            LessonDesk desk = right(1, 10, 20, 0);
            desk.aside(0, 0, true);
            Check.due("ASIDE", desk.lead(0), 0);
        });
        Edge.test("It is told only, if LEAD is SURE (0 .. 999; 10 at first) or more.", () -> {
            int[][] due = {{0, 0, 0}, {0, 1, OPEN}, {5, 5, 0}, {5, 6, OPEN}, {99, 99, 0}, {99, 100, OPEN}};
            for (int[] d : due) {
                LessonDesk desk = right(0, 10, 20, d[0]);
                desk.set(3, d[1]);
                Check.due("LEAD " + d[0] + ", SURE " + d[1], desk.guess(0), d[2]);
            }
            Check.due("LEAD 9, SURE 10 at first", right(0, 10, 20, 9).guess(0), OPEN);
            Check.due("LEAD 10, SURE 10 at first", right(0, 10, 20, 10).guess(0), 0);
            for (int cost = 8; cost <= 10; cost++) {
                LessonDesk desk = right(5, 99, 99, cost);
                desk.set(3, 999);
                Check.due("LEAD " + desk.lead(0) + ", SURE 999", desk.guess(0), cost >= 9 ? 0 : OPEN);
            }
        });
        Edge.test("The GUESS. BAD; OPEN: it is not told.", () -> {
            Edge.none(BAD, LessonDesk::guess, -1, 3, 12, LEAST, MOST);
            Edge.none(Edge::full, BAD, LessonDesk::guess, -1, 12, LEAST, MOST);
            Edge.refused("not told", () -> right(0, 10, 20, 5), desk -> desk.guess(0), OPEN);
            Check.due("LEARNER 0", Edge.full().guess(0), 0);
            Check.due("LEARNER 11", Edge.full().guess(11), OPEN);
        });
        Edge.test("LEAD. BAD.", () -> {
            Edge.none(BAD, LessonDesk::lead, -1, 3, 12, LEAST, MOST);
            Edge.none(Edge::full, BAD, LessonDesk::lead, -1, 12, LEAST, MOST);
            Check.due("LEARNER 11", Edge.full().lead(11), 5);
        });
    }

    private static void count() {
        Edge.range(0, 4, 3, 1, BAD, (desk, v) -> desk.count(0, v));
        Edge.none(BAD, (desk, v) -> desk.count(v, 0), -1, 3, 12, LEAST, MOST);
        Edge.none(BAD, (desk, v) -> desk.count(v, v), -1, 4, LEAST, MOST);
        int[] full = {40, 0, 40, 0};
        int[] aside = {40, 40, 0, 0};
        LessonDesk desk = Edge.full();
        LessonDesk away = Edge.full();
        for (int number = 0; number < 40; number++) {
            away.aside(0, number, true);
        }
        for (int what = 0; what < 4; what++) {
            Check.due("of 40, what " + what, desk.count(0, what), full[what]);
            Check.due("of 40 ASIDE, what " + what, away.count(0, what), aside[what]);
            Check.due("of none, what " + what, desk.count(11, what), 0);
        }
        // A STRANGE one as the first of all and as the 40th.
        LessonDesk strange = new LessonDesk();
        strange.learner();
        for (int number = 0; number < 40; number++) {
            strange.answer(0, 9, 3, number == 0 || number == 39 ? 777 : 6);
        }
        Check.due("two are STRANGE", strange.count(0, 3), 2);
        Check.due("the others are right", strange.count(0, 2), 38);
        // A STRANGE one counts only while it is not ASIDE.
        LessonDesk busy = Edge.busy();
        Check.due("STRANGE", busy.count(0, 3), 1);
        busy.aside(0, 3, true);
        Check.due("STRANGE, but ASIDE", busy.count(0, 3), 0);
        Check.due("two ASIDE", busy.count(0, 1), 2);
    }

    // ---- strange answers

    private static void isStrange(LessonDesk desk, int... want) {
        for (int what = 0; what < 4; what++) {
            Check.due("strange(" + what + ")", desk.strange(what), want[what]);
        }
    }

    private static LessonDesk gave(int[]... given) {
        LessonDesk desk = new LessonDesk();
        for (int who = 0; who < 12; who++) {
            desk.learner();
        }
        for (int[] g : given) {
            desk.answer(g[0], g[1], g[2], g[3]);
        }
        return desk;
    }

    private static void strange() {
        Edge.test("STRANGE are ANSWERS to a TASK that no KNOWN SET gives: of all LEARNERS', not ASIDE.", () -> {
            LessonDesk none = gave(new int[] {0, 52, 17, 35}, new int[] {11, 52, 17, 45});
            isStrange(none, NONE, NONE, NONE, NONE);
            // LEARNERS 0 and 11, with the same one; the least and the greatest TASK and ANSWER.
            isStrange(gave(new int[] {0, 0, 0, 1}, new int[] {11, 0, 0, 1}), 2, 0, 0, 1);
            isStrange(gave(new int[] {11, 999, 999, 999}), 1, 999, 999, 999);
            isStrange(gave(new int[] {0, 999, 998, 0}, new int[] {1, 999, 998, 1}), 1, 999, 998, 0);
            LessonDesk desk = gave(new int[] {0, 9, 3, 777}, new int[] {0, 9, 3, 777}, new int[] {1, 999, 0, 1});
            desk.aside(0, 0, true);
            isStrange(desk, 1, 9, 3, 777);
            desk.aside(0, 1, true);
            isStrange(desk, 1, 999, 0, 1);
            desk.aside(1, 0, true);
            isStrange(desk, NONE, NONE, NONE, NONE);
            desk.aside(0, 1, false);
            isStrange(desk, 1, 9, 3, 777);
        });
        Edge.test("that most gave (each ANSWER counts; of like ones the least MUCH, LESS, ANSWER)", () -> {
            int[] late = {0, 900, 1, 777};
            isStrange(gave(new int[] {1, 899, 800, 999}, late), 1, 899, 800, 999);
            isStrange(gave(late, new int[] {1, 899, 800, 999}), 1, 899, 800, 999);
            isStrange(gave(late, new int[] {1, 900, 0, 999}), 1, 900, 0, 999);
            isStrange(gave(late, new int[] {1, 900, 1, 776}), 1, 900, 1, 776);
            isStrange(gave(late, late, new int[] {1, 900, 1, 776}), 2, 900, 1, 777);
            isStrange(gave(late, new int[] {1, 900, 1, 776}, late, new int[] {2, 900, 1, 776}), 2, 900, 1, 776);
        });
        Edge.test("how many (0), MUCH (1), LESS (2), ANSWER (3). BAD; NONE.", () -> {
            Edge.range(0, 1, 3, 777, BAD, LessonDesk::strange);
            Edge.none(LessonDesk::new, NONE, LessonDesk::strange, 0, 1, 2, 3);
            Edge.none(LessonDesk::new, BAD, LessonDesk::strange, -1, 4, LEAST, MOST);
        });
        Edge.test("LEARNERS 0 .. 11, as they come, give ANSWERS (40 each at most)", () -> {
            LessonDesk desk = gave();
            Edge.put(desk, 0, 2, 0, 0, 7, 0, 0, 7, 0, 0, 7, 0, 0, 7, 0, 0, 7, 0, 0, 7, 0, 0, 7, 0, 0, 7, 0, 0, 7, 0, 0, 7);
            for (int who = 0; who < 12; who++) {
                for (int many = 10; many <= 40; many += 10) {
                    Check.due("answers", desk.answers(who, 0, 2, 0, 10), many);
                }
            }
            isStrange(desk, 480, 0, 0, 7);
        });
    }

    // ---- hints

    private static void hint(LessonDesk desk, int much, int less, int written, int many, int want) {
        Check.due("hint(" + much + ", " + less + ", " + written + ", " + many + ")",
            desk.hint(much, less, written, many), want);
    }

    private static void hints() {
        Edge.test("with as many digits written as told (0 .. 2, from the ones on): the next digit by the right way,"
            + " if those are right.", () -> {
            LessonDesk desk = new LessonDesk();
            desk.hint(999, 210, 0, 0);
            hint(desk, 999, 210, 0, 0, 9);
            hint(desk, 999, 210, 9, 1, 8);
            hint(desk, 999, 210, 89, 2, 7);
            hint(desk, 999, 210, 8, 1, NOT);
            hint(desk, 999, 210, 88, 2, NOT);
            hint(desk, 999, 210, 99, 2, NOT);
            hint(desk, 999, 210, 9, 2, NOT);
            // Where the digits are 0: they are written as 0.
            desk.hint(500, 0, 0, 0);
            hint(desk, 500, 0, 0, 0, 0);
            hint(desk, 500, 0, 0, 1, 0);
            hint(desk, 500, 0, 0, 2, 5);
            desk.hint(0, 0, 0, 0);
            hint(desk, 0, 0, 0, 2, 0);
            desk.hint(999, 0, 0, 0);
            hint(desk, 999, 0, 99, 2, 9);
        });
        Edge.test("It is given only if the hint() ahead (that was not BAD) was for that TASK, too.", () -> {
            hint(new LessonDesk(), 0, 0, 0, 0, OPEN);
            LessonDesk desk = new LessonDesk();
            hint(desk, 52, 17, 100, 2, BAD);
            hint(desk, 52, 17, 0, 0, OPEN);
            hint(desk, 52, 17, 100, 2, BAD);
            hint(desk, 700, 1, 1, 0, BAD);
            hint(desk, 52, 17, 5, 1, 3);
            // The same MUCH, the same LESS, the same ANSWER: yet another TASK.
            hint(desk, 52, 16, 0, 0, OPEN);
            hint(desk, 53, 16, 0, 0, OPEN);
            hint(desk, 54, 17, 0, 0, OPEN);
            hint(desk, 53, 16, 0, 0, OPEN);
            hint(desk, 53, 16, 0, 0, 7);
            // Other calls do not come between.
            desk.work(700, 1, 0);
            desk.strange(0);
            hint(desk, 53, 16, 0, 0, 7);
        });
        Edge.test("(NOT, OPEN: it was asked for.)", () -> {
            LessonDesk desk = new LessonDesk();
            hint(desk, 52, 17, 4, 1, NOT);
            hint(desk, 52, 17, 5, 1, 3);
            hint(desk, 53, 17, 0, 0, OPEN);
            hint(desk, 53, 17, 0, 0, 6);
            hint(desk, 52, 17, 4, 1, NOT);
            hint(desk, 53, 17, 0, 0, OPEN);
        });
        Edge.test("BAD: also written of more digits than many; NOT: a digit that is written is wrong; OPEN: the hint()"
            + " ahead was for another TASK, or none.", LearnerEdgesTest::refusedHints);
    }

    private static void refusedHints() {
        // The hint() ahead of a busy desk was for 52 less 17: a hint() that is BAD leaves it so.
        Edge.range(0, 5, 2, NOT, BAD, (desk, v) -> desk.hint(52, 17, 0, v));
        Edge.none(BAD, (desk, v) -> desk.hint(53, 17, v, 0), -1, 1, LEAST, MOST);
        Edge.none(BAD, (desk, v) -> desk.hint(53, 17, v, 1), -1, 10, LEAST, MOST);
        Edge.none(BAD, (desk, v) -> desk.hint(53, 17, v, 2), -1, 100, LEAST, MOST);
        Edge.none(BAD, (desk, v) -> desk.hint(53, 17, 0, v), -1, 3, LEAST, MOST);
        Edge.none(BAD, (desk, v) -> desk.hint(53, v, 0, 0), -1, 54, LEAST, MOST);
        Edge.none(BAD, (desk, v) -> desk.hint(v, 17, 0, 0), 16, 1000, LEAST, MOST);
        Edge.none(BAD, (desk, v) -> desk.hint(v, v, 0, 0), -1, 1000, LEAST, MOST);
        Check.due("the most written, 1 digit", Edge.busy().hint(59, 0, 9, 1), OPEN);
        Check.due("the most written, 2 digits", Edge.busy().hint(99, 0, 99, 2), OPEN);
        Check.due("the greatest TASK", Edge.busy().hint(999, 999, 0, 2), OPEN);
        Check.due("NOT, of that TASK", Edge.busy().hint(52, 17, 4, 1), NOT);
        Check.due("NOT ahead of OPEN", Edge.busy().hint(53, 17, 4, 1), NOT);
        Check.due("NOT ahead of OPEN, none ahead", new LessonDesk().hint(53, 17, 4, 1), NOT);
        Check.due("BAD ahead of NOT", Edge.busy().hint(52, 17, 14, 1), BAD);
        Check.due("BAD ahead of OPEN", Edge.busy().hint(53, 17, 6, 0), BAD);
        // NOT and OPEN change nothing but what the next hint() looks at.
        for (int look = 0; look < Look.MANY; look++) {
            if (look != Look.HINT) {
                LessonDesk desk = Edge.busy();
                desk.hint(53, 17, 4, 1);
                desk.hint(54, 17, 0, 0);
                Check.due("look " + look, Look.at(desk, look).equals(Look.at(Edge.busy(), look)));
            }
        }
    }
}
