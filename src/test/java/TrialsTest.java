/** Promises 26 to 30: deal, ends, by, share, verdict. */
public final class TrialsTest {
    public static void main(String[] args) {
        deals();
        by();
        shares();
        verdicts();
        Check.end();
    }

    private static LessonDesk dealt(int[] zeros, int[] ones) {
        LessonDesk desk = new LessonDesk();
        for (int v : zeros) {
            desk.deal(0, v);
        }
        for (int v : ones) {
            desk.deal(1, v);
        }
        return desk;
    }

    private static void deals() {
        LessonDesk desk = new LessonDesk();
        Check.due("way 2", desk.deal(2, 0), LessonDesk.BAD);
        Check.due("way -1", desk.deal(-1, 0), LessonDesk.BAD);
        Check.due("outcome 1000", desk.deal(0, 1000), LessonDesk.BAD);
        Check.due("outcome -1000", desk.deal(0, -1000), LessonDesk.BAD);
        for (int i = 1; i <= 12; i++) {
            Check.due("deal", desk.deal(i % 2, i % 3 == 0 ? -999 : 999), i);
        }
        Check.due("a 13th", desk.deal(0, 0), LessonDesk.FULL);
        Check.due("BAD first", desk.deal(0, 1000), LessonDesk.BAD);
        Check.due("all go", desk.ends(), 12);
        Check.due("none", desk.ends(), 0);
        Check.due("anew", desk.deal(1, 3), 1);
        Check.due("one way only", desk.by(0), -100002);
    }

    private static void isBy(LessonDesk desk, int above, int below) {
        Check.due("by, above", desk.by(0), above);
        Check.due("by, below", desk.by(1), below);
    }

    private static void by() {
        LessonDesk desk = new LessonDesk();
        isBy(desk, -100002, -100002);
        Check.due("what 2", desk.by(2), -100001);
        Check.due("what -1", desk.by(-1), -100001);
        desk.deal(0, 3);
        isBy(desk, -100002, -100002);
        isBy(dealt(new int[] {3}, new int[] {5}), 2, 1);
        isBy(dealt(new int[] {5}, new int[] {3}), -2, 1);
        isBy(dealt(new int[] {5}, new int[] {5}), 0, 1);
        isBy(dealt(new int[] {0, 1}, new int[] {0, 0, 1}), -1, 6);
        isBy(dealt(new int[] {0, 0, 1}, new int[] {1, 0, 1}), 1, 3);
        isBy(dealt(new int[] {-999, -999}, new int[] {999, 999}), 1998, 1);
        isBy(dealt(new int[] {999, 999, 999, 999, 999, 998}, new int[] {-999, -999, -999, -999, -999, -998}), -11986 / 2, 3);
    }

    private static void shares() {
        Check.due("none", new LessonDesk().share(), LessonDesk.NOT);
        Check.due("only way 1", dealt(new int[] {}, new int[] {1, 2}).share(), LessonDesk.NOT);
        Check.due("only way 0", dealt(new int[] {1, 2}, new int[] {}).share(), LessonDesk.NOT);
        Check.due("1 of 2", dealt(new int[] {3}, new int[] {5}).share(), 500);
        Check.due("2 of 2", dealt(new int[] {5}, new int[] {3}).share(), 1000);
        Check.due("like ones", dealt(new int[] {5}, new int[] {5}).share(), 1000);
        Check.due("1 of 3", dealt(new int[] {1, 2}, new int[] {3}).share(), 333);
        Check.due("2 of 3", dealt(new int[] {1, 3}, new int[] {2}).share(), 666);
        Check.due("1 of 6", dealt(new int[] {1, 2}, new int[] {3, 4}).share(), 166);
        // 2 + 3 is no less than 1 + 4.
        Check.due("4 of 6", dealt(new int[] {2, 3}, new int[] {1, 4}).share(), 666);
        Check.due("1 of 924", dealt(new int[] {1, 2, 3, 4, 5, 6}, new int[] {7, 8, 9, 10, 11, 12}).share(), 1);
        Check.due("below 0", dealt(new int[] {-5, -6}, new int[] {-1}).share(), 333);
    }

    private static void verdicts() {
        Check.due("none", new LessonDesk().verdict(), LessonDesk.NOT);
        Check.due("only way 1", dealt(new int[] {}, new int[] {1, 2}).verdict(), LessonDesk.NOT);
        Check.due("500 is like", dealt(new int[] {3}, new int[] {5}).verdict(), 0);
        Check.due("333 is open", dealt(new int[] {1, 2}, new int[] {3}).verdict(), LessonDesk.OPEN);
        LessonDesk desk = dealt(new int[] {1, 2, 3}, new int[] {4, 5, 6});
        Check.due("50 is not below 50", desk.verdict(), LessonDesk.OPEN);
        desk.set(4, 51);
        Check.due("50 is below 51", desk.verdict(), 1);
        desk.set(4, 500);
        desk.ends();
        Check.due("no more", desk.verdict(), LessonDesk.NOT);
        desk.deal(0, 3);
        desk.deal(1, 5);
        Check.due("500 is not below 500", desk.verdict(), 0);
    }
}
