/** The boundaries that the document names for an object as a whole: a new one, its answers, its last call. */
public final class DeskEdgesTest {
    private static final int BAD = LessonDesk.BAD, NOT = LessonDesk.NOT, FULL = LessonDesk.FULL;
    private static final int NONE = LessonDesk.NONE, OPEN = LessonDesk.OPEN, NULL = LessonDesk.NULL;
    private static final int CAST = LessonDesk.CAST, INDEX = LessonDesk.INDEX, SIZE = LessonDesk.SIZE;
    private static final int FAR_BAD = -100001, FAR_NOT = -100002;

    public static void main(String[] args) {
        Edge.test("No SKILLS, no LEARNERS, no TRIAL.", DeskEdgesTest::newObject);
        Edge.test("BAD = -1, NOT = -2, FULL = -3, NONE = -4, OPEN = -5, NULL = -11, CAST = -12, INDEX = -13, SIZE = -14",
            DeskEdgesTest::constants);
        Edge.test("Answers below 0, of several the first that a call names", DeskEdgesTest::firstNamed);
        Edge.test("what the machine finds: NULL -11, CAST -12, INDEX -13, SIZE -14, in this order",
            DeskEdgesTest::machineFinds);
        Edge.test("An object is used for at most 512 calls after it has been made", DeskEdgesTest::lastCall);
        Edge.test("What answers so changes nothing, but as told.", DeskEdgesTest::refusedAllTheTime);
        Edge.test("Divisions are cut toward 0.", DeskEdgesTest::cut);
        Check.end();
    }

    private static void newObject() {
        for (int number = 0; number < 12; number++) {
            LessonDesk desk = new LessonDesk();
            Check.due("answer", desk.answer(number, 0, 0, 0), BAD);
            Check.due("answers", desk.answers(number, 0, 0, 0, 0), BAD);
            Check.due("aside", desk.aside(number, 0, true), BAD);
            Check.due("points", desk.points(number, 0), FAR_BAD);
            Check.due("guess", desk.guess(number), BAD);
            Check.due("lead", desk.lead(number), BAD);
            Check.due("count", desk.count(number, 0), BAD);
            Check.due("exercise", desk.exercise(number, 0, 0, true), BAD);
            Check.due("odds", desk.odds(number, 0, 0), BAD);
            Check.due("again", desk.again(number, 0, 1), BAD);
            Check.due("way", desk.way(number, 0, 0, 0), BAD);
        }
        LessonDesk desk = new LessonDesk();
        Check.due("the first LEARNER", desk.learner(), 0);
        for (int skill = 0; skill < 8; skill++) {
            Check.due("skill", desk.skill(skill, 0), BAD);
            Check.due("exercise", desk.exercise(0, skill, 0, true), BAD);
            Check.due("odds", desk.odds(0, skill, 0), BAD);
            Check.due("again", desk.again(0, skill, 1), BAD);
        }
        Check.due("way", desk.way(0, 0, 160, 0), 0);
        Check.due("an empty TAPE", desk.skills(), -20);
        Check.due("by", desk.by(0), FAR_NOT);
        Check.due("share", desk.share(), NOT);
        Check.due("verdict", desk.verdict(), NOT);
        Check.due("ends", desk.ends(), 0);
        Check.due("strange", desk.strange(0), NONE);
        Check.due("hint", desk.hint(0, 0, 0, 0), OPEN);
        Check.due("drop", desk.drop(0), NULL);
        Check.due("another new object", new LessonDesk().learner(), 0);
    }

    private static void constants() {
        int[] got = {
            LessonDesk.BAD, LessonDesk.NOT, LessonDesk.FULL, LessonDesk.NONE, LessonDesk.OPEN,
            LessonDesk.NULL, LessonDesk.CAST, LessonDesk.INDEX, LessonDesk.SIZE
        };
        int[] want = {-1, -2, -3, -4, -5, -11, -12, -13, -14};
        for (int i = 0; i < want.length; i++) {
            Check.due("constant " + i, got[i], want[i]);
        }
    }

    /** From call to call one reason less; what is refused for all of them is told first. */
    private static void firstNamed() {
        Edge.refused("least, BAD ahead of NONE", desk -> desk.least(9, 3, 777, -1), BAD);
        Edge.refused("least, NONE", desk -> desk.least(9, 3, 777, 0), NONE);
        Edge.refused("parts, BAD ahead of NONE", desk -> desk.parts(1, 1, 201), BAD);
        Edge.refused("parts, NONE", desk -> desk.parts(1, 1, 200), NONE);
        Edge.refused("answer, BAD ahead of FULL", Edge::full, desk -> desk.answer(0, 1, 2, 0), BAD);
        Edge.refused("answer, FULL", Edge::full, desk -> desk.answer(0, 2, 2, 0), FULL);
        Edge.refused("strange, BAD ahead of NONE", LessonDesk::new, desk -> desk.strange(4), BAD);
        Edge.refused("strange, NONE", LessonDesk::new, desk -> desk.strange(3), NONE);
        Check.due("hint, BAD ahead of NOT, OPEN", new LessonDesk().hint(52, 17, 14, 1), BAD);
        Check.due("hint, NOT ahead of OPEN", new LessonDesk().hint(52, 17, 4, 1), NOT);
        Check.due("hint, OPEN", new LessonDesk().hint(52, 17, 5, 1), OPEN);
        Edge.refused("type, BAD ahead of FULL", Edge::full, desk -> desk.type(31, 1), BAD);
        Edge.refused("type, FULL", Edge::full, desk -> desk.type(32, 1), FULL);
        Edge.refused("exercise, BAD ahead of NOT", desk -> desk.exercise(0, 1, -1, true), BAD);
        Edge.refused("exercise, NOT", desk -> desk.exercise(0, 1, 0, true), NOT);
        Edge.refused("odds, BAD ahead of NOT", desk -> desk.odds(0, 1, -1), BAD);
        Edge.refused("odds, NOT", desk -> desk.odds(0, 1, 0), NOT);
        Edge.refused("again, BAD ahead of NONE", desk -> desk.again(1, 0, 0), BAD);
        Edge.refused("again, NONE", desk -> desk.again(1, 0, 1), NONE);
        Edge.refused("way, BAD ahead of NOT", desk -> desk.way(0, 0, 161, 0), BAD);
        Edge.refused("way, NOT", desk -> desk.way(0, 0, 160, 0), NOT);
        Edge.refused("deal, BAD ahead of FULL", Edge::full, desk -> desk.deal(2, 0), BAD);
        Edge.refused("deal, FULL", Edge::full, desk -> desk.deal(1, 0), FULL);
        Edge.refused("by, BAD ahead of NOT", LessonDesk::new, desk -> desk.by(2), FAR_BAD);
        Edge.refused("by, NOT", LessonDesk::new, desk -> desk.by(1), FAR_NOT);
    }

    private static void machineFinds() {
        Edge.refused("sheet, BAD ahead of SIZE", desk -> desk.sheet(0, 3, -1), BAD);
        Edge.refused("sheet, SIZE", desk -> desk.sheet(0, 2, -1), SIZE);
        Edge.refused("drop, BAD", desk -> desk.drop(4), BAD);
        Edge.refused("drop, NULL", desk -> desk.drop(3), NULL);
        // SHEET 3 holds nothing, SHEET 2 six ints, of which 17 less 35 is no TASK.
        Edge.refused("item, BAD ahead of NULL, INDEX", desk -> desk.item(3, 3, -1, 0), BAD);
        Edge.refused("item, NULL ahead of INDEX", desk -> desk.item(3, 0, -1, 0), NULL);
        Edge.refused("item, CAST ahead of INDEX", desk -> desk.item(2, 0, -1, 0), CAST);
        Edge.refused("item, INDEX", desk -> desk.item(2, 2, -1, 0), INDEX);
        Edge.refused("copy, BAD ahead of NULL, INDEX", desk -> desk.copy(3, -1, 4, -1, -1), BAD);
        Edge.refused("copy, NULL ahead of INDEX", desk -> desk.copy(3, -1, 2, -1, -1), NULL);
        Edge.refused("copy, CAST ahead of INDEX", desk -> desk.copy(1, -1, 2, -1, -1), CAST);
        Edge.refused("copy, INDEX", desk -> desk.copy(2, -1, 2, -1, -1), INDEX);
        Edge.refused("probe, BAD ahead of NULL, INDEX", desk -> desk.probe(0, 3, 0, -1, 1), BAD);
        Edge.refused("probe, NULL ahead of INDEX", desk -> desk.probe(1, 3, 0, -1, 1), NULL);
        Edge.refused("probe, CAST ahead of INDEX", desk -> desk.probe(1, 2, 0, -1, 1), CAST);
        Edge.refused("probe, INDEX", desk -> desk.probe(1, 2, 2, -1, 1), INDEX);
        Edge.refused("answers, BAD ahead of NULL, INDEX", desk -> desk.answers(3, 3, 0, -1, 1), BAD);
        Edge.refused("answers, NULL ahead of INDEX", desk -> desk.answers(0, 3, 0, -1, 1), NULL);
        Edge.refused("answers, CAST ahead of INDEX", desk -> desk.answers(0, 2, 0, -1, 1), CAST);
        Edge.refused("answers, INDEX ahead of NOT", desk -> desk.answers(0, 2, 2, 1, 2), INDEX);
        Edge.refused("answers, NOT", desk -> desk.answers(0, 2, 2, 1, 1), NOT);
    }

    /** All that an object can hold is there before its 512th call, which answers as any other. */
    private static void lastCall() {
        isLast(desk -> desk.strange(0), 480);
        isLast(desk -> desk.lead(11), 5);
        isLast(desk -> desk.type(32, 1), FULL);
        isLast(desk -> desk.way(11, 9999, 160, 1), 792);
        isLast(LessonDesk::share, 1);
        isLast(desk -> desk.drop(3), 40);
    }

    private static void isLast(Edge.Call call, int want) {
        LessonDesk desk = new LessonDesk();
        int calls = fillAll(desk);
        while (calls < 511) {
            Check.due("after " + calls + " calls", desk.learner(), FULL);
            calls++;
        }
        Check.due("the 512th call", call.on(desk), want);
    }

    /** How many calls it took. */
    private static int fillAll(LessonDesk desk) {
        for (int who = 0; who < 12; who++) {
            desk.learner();
        }
        desk.sheet(0, 1, 30);
        for (int i = 2; i < 30; i += 3) {
            desk.item(0, 1, i, 999);
        }
        for (int who = 0; who < 12; who++) {
            for (int many = 10; many <= 40; many += 10) {
                Check.due("answers", desk.answers(who, 0, 1, 0, 10), many);
            }
        }
        String text = "a=20/99;b=20/99;c=20/99;d=20/99;e=20/99;f=20/99;g=20/99;h=20/99";
        Check.due("skills", Check.skills(desk, text), 8);
        for (int who = 0; who < 12; who++) {
            for (int skill = 0; skill < 8; skill++) {
                Check.due("exercise", desk.exercise(who, skill, 0, true), 16);
            }
        }
        Check.type(desk, " ".repeat(100));
        for (int i = 0; i < 12; i++) {
            Check.due("deal", desk.deal(i / 6, i), i + 1);
        }
        for (int sheet = 0; sheet < 4; sheet++) {
            desk.sheet(sheet, sheet % 3, 40);
        }
        int typed = (text.length() + 7) / 8;
        return 12 + 1 + 10 + 48 + typed + 1 + 96 + 13 + 12 + 4;
    }

    /** One refused call after another, of every kind: the desk is as it was. */
    private static void refusedAllTheTime() {
        for (int look = 0; look < Look.MANY; look++) {
            LessonDesk desk = Edge.busy();
            for (int v : new int[] {Integer.MIN_VALUE, Integer.MAX_VALUE}) {
                int sum = desk.work(v, 0, 0) + desk.row(0, v, 0, 0) + desk.could(0, 0, v) + desk.least(v, 0, 0, 0)
                    + desk.parts(v, 0, 1) + desk.probe(v, 0, 0, 0, 1) + desk.answer(v, 0, 0, 0)
                    + desk.answers(0, 2, 2, 0, v) + desk.aside(0, v, true) + desk.set(v, 1) + desk.guess(v)
                    + desk.lead(v) + desk.count(0, v) + desk.strange(v) + desk.hint(5, 5, v, 2) + desk.type(32, v)
                    + desk.skill(v, 0) + desk.exercise(0, 0, v, true) + desk.odds(0, 0, v) + desk.again(0, 0, v)
                    + desk.way(0, 60, v, 0) + desk.deal(0, v) + desk.sheet(v, 0, 1) + desk.drop(v)
                    + desk.item(v, 0, 0, 1) + desk.copy(0, 0, v, 0, 1);
                Check.due("26 times BAD", sum, 26 * BAD);
                Check.due("BAD less 100000, twice", desk.points(0, v) + desk.by(v), 2 * FAR_BAD);
            }
            Check.due("look " + look, Look.at(desk, look).equals(Look.at(Edge.busy(), look)));
        }
    }

    private static void cut() {
        LessonDesk desk = new LessonDesk();
        desk.learner();
        Check.skills(desk, "a=1/1");
        desk.exercise(0, 0, 0, true);
        Check.due("16000 by 17", desk.odds(0, 0, 1), 941);
        Check.due("16000 by 10015", desk.odds(0, 0, 9999), 1);
        desk.deal(0, 1);
        desk.deal(0, 3);
        desk.deal(1, 2);
        Check.due("2000 by 3", desk.share(), 666);
        // A fraction is not cut.
        desk.deal(1, 1);
        Check.due("BY, above", desk.by(0), -1);
        Check.due("BY, below", desk.by(1), 2);
    }
}
