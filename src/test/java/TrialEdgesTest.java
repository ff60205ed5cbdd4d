import java.util.function.Supplier;

/** The boundaries that part 4 of the terms and promises 26 to 30 name: a TRIAL, BY, SHARE, verdicts. */
public final class TrialEdgesTest {
    private static final int BAD = LessonDesk.BAD, NOT = LessonDesk.NOT, FULL = LessonDesk.FULL, OPEN = LessonDesk.OPEN;
    private static final int LEAST = Integer.MIN_VALUE, MOST = Integer.MAX_VALUE;
    private static final int FAR_BAD = -100001, FAR_NOT = -100002;
    private static final int[] NO_ONE = {};

    public static void main(String[] args) {
        Edge.test("2 to 12 OUTCOMES (-999 .. 999), each dealt to way 0 or 1, one at least to each.",
            TrialEdgesTest::outcomes);
        Edge.test("the mean of way 1 less that of way 0 (as a fraction, never cut)", TrialEdgesTest::fraction);
        Edge.test("of all ways to deal as many to way 1 how many have a BY no less than this, in thousandths of all, cut",
            TrialEdgesTest::thousandths);
        Edge.test("BETTER it is, if SHARE is below LEVEL (1 .. 500; 50 at first); LIKE, if SHARE is 500 or more;"
            + " else OPEN.", TrialEdgesTest::better);
        Edge.test("An OUTCOME, dealt to a way: how many there are. BAD; FULL: 12.", TrialEdgesTest::deal);
        Edge.test("All OUTCOMES go: how many.", TrialEdgesTest::ends);
        Edge.test("above (0), below (1), in lowest terms, below above 0. BAD less 100000 (-100001); NOT less that"
            + " (-100002): a way has none.", TrialEdgesTest::by);
        Edge.test("SHARE. NOT: a way has none.", () -> lacking(LessonDesk::share));
        Edge.test("1 BETTER, 0 LIKE; OPEN: neither. NOT: a way has none.", TrialEdgesTest::verdict);
        Check.end();
    }

    /** A busy desk, its TRIAL anew. */
    private static LessonDesk dealt(int[] zeros, int[] ones) {
        LessonDesk desk = Edge.busy();
        desk.ends();
        desk.set(4, 50);
        for (int v : zeros) {
            desk.deal(0, v);
        }
        for (int v : ones) {
            desk.deal(1, v);
        }
        return desk;
    }

    private static int[] row(int... outcomes) {
        return outcomes;
    }

    private static int[] like(int outcome, int many) {
        int[] row = new int[many];
        java.util.Arrays.fill(row, outcome);
        return row;
    }

    private static void outcomes() {
        Check.due("two are enough", dealt(row(3), row(5)).share(), 500);
        Check.due("one is not", dealt(row(3), NO_ONE).share(), NOT);
        Check.due("two of one way are not", dealt(NO_ONE, row(3, 4)).share(), NOT);
        Check.due("twelve, eleven of way 0", dealt(like(0, 11), row(1)).share(), 83);
        Check.due("twelve, eleven of way 1", dealt(row(-1), like(0, 11)).share(), 83);
        Check.due("twelve of one way are not", dealt(like(0, 12), NO_ONE).share(), NOT);
        Check.due("twelve of one way are not", dealt(NO_ONE, like(0, 12)).share(), NOT);
        Check.due("the least and the greatest", dealt(row(-999), row(999)).by(0), 1998);
    }

    private static void isBy(LessonDesk desk, int above, int below) {
        Check.due("above", desk.by(0), above);
        Check.due("below", desk.by(1), below);
    }

    private static void fraction() {
        isBy(dealt(row(0), row(0, 1)), 1, 2);
        isBy(dealt(row(0), row(0, -1)), -1, 2);
        isBy(dealt(row(0, 1), row(0)), -1, 2);
        isBy(dealt(row(0, 0, 0, 0, 1), row(0, 0, 0, 0, 0, 0, 1)), -2, 35);
        isBy(dealt(like(0, 6), row(1, 0, 0, 0, 0, 0)), 1, 6);
        // The greatest and the least of all.
        isBy(dealt(like(-999, 6), like(999, 6)), 1998, 1);
        isBy(dealt(like(999, 6), like(-999, 6)), -1998, 1);
        isBy(dealt(like(-999, 11), like(999, 1)), 1998, 1);
        isBy(dealt(like(999, 1), like(-999, 11)), -1998, 1);
        isBy(dealt(row(-999, -999, -999, -999, -998), row(999, 999, 999, 999, 999, 999, 998)), 69918, 35);
    }

    private static void thousandths() {
        Check.due("1 of 2", dealt(row(3), row(5)).share(), 500);
        Check.due("2 of 2, like ones", dealt(row(5), row(5)).share(), 1000);
        Check.due("1 of 3, cut", dealt(row(1, 2), row(3)).share(), 333);
        Check.due("2 of 3, cut", dealt(row(1, 3), row(2)).share(), 666);
        Check.due("all of 3", dealt(row(2, 3), row(1)).share(), 1000);
        Check.due("1 of 12", dealt(like(0, 11), row(1)).share(), 83);
        Check.due("1 of 924", dealt(row(1, 2, 3, 4, 5, 6), row(7, 8, 9, 10, 11, 12)).share(), 1);
        Check.due("923 of 924, cut", dealt(row(6, 8, 9, 10, 11, 12), row(1, 2, 3, 4, 5, 7)).share(), 998);
        Check.due("all of 924", dealt(row(7, 8, 9, 10, 11, 12), row(1, 2, 3, 4, 5, 6)).share(), 1000);
        Check.due("all of 924, like ones", dealt(like(-999, 6), like(-999, 6)).share(), 1000);
    }

    private static final int[] ZEROS_498 = {1, -10, 4, -3, -3, 4}, ONES_498 = {11, 4, -11, 9, 0, -18};
    private static final int[] ZEROS_49 = {-12, -12, 11, -8, -3, -11}, ONES_49 = {9, -8, -4, 2, 10, 11};

    private static void verdict(int[] zeros, int[] ones, int level, int share, int want) {
        LessonDesk desk = dealt(zeros, ones);
        desk.set(4, level);
        Check.due("SHARE", desk.share(), share);
        Check.due("SHARE " + share + ", LEVEL " + level, desk.verdict(), want);
    }

    private static void better() {
        verdict(row(1, 2, 3), row(4, 5, 6), 50, 50, OPEN);
        verdict(row(1, 2, 3), row(4, 5, 6), 51, 50, 1);
        verdict(ZEROS_49, ONES_49, 49, 49, OPEN);
        LessonDesk first = new LessonDesk();
        for (int i = 0; i < 6; i++) {
            first.deal(0, ZEROS_49[i]);
            first.deal(1, ONES_49[i]);
        }
        Check.due("SHARE 49, LEVEL 50 at first", first.verdict(), 1);
        // The least SHARE of all is 1.
        verdict(row(1, 2, 3, 4, 5, 6), row(7, 8, 9, 10, 11, 12), 1, 1, OPEN);
        verdict(row(1, 2, 3, 4, 5, 6), row(7, 8, 9, 10, 11, 12), 2, 1, 1);
        // 498 is the greatest one below 500.
        verdict(ZEROS_498, ONES_498, 1, 498, OPEN);
        verdict(ZEROS_498, ONES_498, 498, 498, OPEN);
        verdict(ZEROS_498, ONES_498, 499, 498, 1);
        verdict(ZEROS_498, ONES_498, 500, 498, 1);
        verdict(row(3), row(5), 1, 500, 0);
        verdict(row(3), row(5), 500, 500, 0);
        verdict(row(5), row(5), 500, 1000, 0);
    }

    /** A busy desk with so many OUTCOMES. */
    private static Supplier<LessonDesk> withMany(int many) {
        return () -> dealt(like(7, many), NO_ONE);
    }

    private static void deal() {
        // A busy desk has four OUTCOMES.
        Edge.range(0, 5, 1, 5, BAD, (desk, v) -> desk.deal(v, 0));
        Edge.range(-999, 5, 999, 5, BAD, (desk, v) -> desk.deal(0, v));
        Edge.range(-999, 5, 999, 5, BAD, (desk, v) -> desk.deal(1, v));
        Edge.refused("no way, no OUTCOME", desk -> desk.deal(2, 1000), BAD);
        Check.due("the first", withMany(0).get().deal(1, 1), 1);
        Check.due("the last", withMany(11).get().deal(1, 1), 12);
        Edge.refused("the 13th", withMany(12), desk -> desk.deal(1, 1), FULL);
        Edge.none(withMany(12), BAD, (desk, v) -> desk.deal(v, 1), -1, 2, LEAST, MOST);
        Edge.none(withMany(12), BAD, (desk, v) -> desk.deal(0, v), -1000, 1000, LEAST, MOST);
    }

    private static void ends() {
        for (int many = 0; many <= 12; many++) {
            LessonDesk desk = withMany(many).get();
            Check.due("all of them", desk.ends(), many);
            Check.due("none is left", desk.ends(), 0);
            Check.due("the first again", desk.deal(1, 5), 1);
            Check.due("no way 0", desk.share(), NOT);
        }
        // A TRIAL that begins anew knows nothing of the old one.
        LessonDesk desk = withMany(12).get();
        desk.ends();
        desk.deal(0, 3);
        desk.deal(1, 5);
        isBy(desk, 2, 1);
        Check.due("LEVEL stays", desk.set(4, 1), 50);
    }

    /** Where a way has no OUTCOME: nothing at all, one, twelve. */
    private static void lacking(Edge.Call call) {
        Edge.refused("nothing", LessonDesk::new, call, NOT);
        Edge.refused("nothing", () -> dealt(NO_ONE, NO_ONE), call, NOT);
        Edge.refused("one of way 0", () -> dealt(row(3), NO_ONE), call, NOT);
        Edge.refused("one of way 1", () -> dealt(NO_ONE, row(3)), call, NOT);
        Edge.refused("twelve of way 0", () -> dealt(like(3, 12), NO_ONE), call, NOT);
        Edge.refused("twelve of way 1", () -> dealt(NO_ONE, like(3, 12)), call, NOT);
    }

    private static void by() {
        // A busy desk has 3 and 2 of way 0, 5 and -9 of way 1.
        Edge.range(0, -9, 1, 2, FAR_BAD, LessonDesk::by);
        isBy(dealt(row(5), row(5)), 0, 1);
        isBy(dealt(like(5, 6), like(5, 6)), 0, 1);
        isBy(dealt(row(0, 0), row(1, 1)), 1, 1);
        isBy(dealt(row(0, 0), row(-1, -1)), -1, 1);
        isBy(dealt(like(0, 6), row(1, 1, 0, 0, 0, 0)), 1, 3);
        isBy(dealt(like(0, 4), row(1, 0, 0, 0, 0, 0)), 1, 6);
        for (int what = 0; what <= 1; what++) {
            int of = what;
            lackingBy(desk -> desk.by(of), FAR_NOT);
        }
        for (int what : new int[] {-1, 2, LEAST, MOST}) {
            lackingBy(desk -> desk.by(what), FAR_BAD);
        }
    }

    private static void lackingBy(Edge.Call call, int want) {
        Edge.refused("nothing", LessonDesk::new, call, want);
        Edge.refused("one of way 0", () -> dealt(row(3), NO_ONE), call, want);
        Edge.refused("one of way 1", () -> dealt(NO_ONE, row(3)), call, want);
    }

    private static void verdict() {
        lacking(LessonDesk::verdict);
        Check.due("BETTER", dealt(row(1, 2, 3, 4), row(5, 6, 7, 8)).verdict(), 1);
        Check.due("LIKE", dealt(row(3), row(3)).verdict(), 0);
        Edge.refused("neither", () -> dealt(row(1, 2), row(3)), LessonDesk::verdict, OPEN);
    }
}
