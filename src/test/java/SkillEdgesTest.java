import java.util.function.Supplier;

/** The boundaries that part 3 of the terms and promises 19 to 25 name: THE TAPE, SKILLS, DAYS, WAYS. */
public final class SkillEdgesTest {
    private static final int BAD = LessonDesk.BAD, NOT = LessonDesk.NOT, FULL = LessonDesk.FULL, NONE = LessonDesk.NONE;
    private static final int LEAST = Integer.MIN_VALUE, MOST = Integer.MAX_VALUE;
    private static final long EIGHT_BLANKS = 0x2020202020202020L;
    private static final String EIGHT = "a=1/1;b=1/1;c=1/1;d=1/1;e=1/1;f=1/1;g=1/1;h=1/1";

    public static void main(String[] args) {
        typing();
        texts();
        Edge.test("THE TAPE, which is empty then, is SKILLS (what was EXERCISED of the old ones is forgotten):"
            + " how many. A FAULT.", SkillEdgesTest::skills);
        Edge.test("Of a SKILL (0 .. 7: a .. h): 0 HOURS, 1 GAIN, 2 those on which it LEANS, as bits. BAD: also none"
            + " such.", SkillEdgesTest::skill);
        exercises();
        odds();
        again();
        ways();
        Check.end();
    }

    // ---- the tape

    /** A desk with so many blanks on THE TAPE. */
    private static Supplier<LessonDesk> typed(int bytes) {
        return () -> {
            LessonDesk desk = Edge.busy();
            desk.skills();
            Check.type(desk, " ".repeat(bytes));
            return desk;
        };
    }

    private static void typing() {
        Edge.test("The n lowest bytes (1 .. 8) of w, of these the highest first, come behind THE TAPE: how many it has.",
            () -> {
                // A busy desk has 7 bytes there.
                Edge.range(1, 8, 8, 15, BAD, (desk, v) -> desk.type(EIGHT_BLANKS, v));
                LessonDesk desk = new LessonDesk();
                Check.due("what is above the lowest 5", desk.type(0x80FF00613D352F39L, 5), 5);
                Check.due("a=5/9", desk.skills(), 1);
                Check.due("HOURS", desk.skill(0, 0), 5);
                Check.due("behind it", desk.type('a', 1) + desk.type('=', 1) + desk.type(0x372F38L, 3), 8);
                Check.due("a=7/8", desk.skills(), 1);
                Check.due("HOURS", desk.skill(0, 0), 7);
                Check.due("all eight", desk.type(0x613D3132202F2033L, 8), 8);
                Check.due("a=12 / 3", desk.skills(), 1);
                Check.due("HOURS", desk.skill(0, 0), 12);
            });
        Edge.test("BAD: n, a byte not 32 .. 126; FULL: 100.", () -> {
            for (int place = 0; place < 8; place++) {
                long without = EIGHT_BLANKS & ~(255L << 8 * place);
                int[][] bytes = {{32, 8}, {126, 8}, {31, BAD}, {127, BAD}, {0, BAD}, {128, BAD}, {160, BAD}, {255, BAD}};
                for (int[] b : bytes) {
                    long w = without | (long) b[0] << 8 * place;
                    Check.due("byte " + b[0] + " at " + place, new LessonDesk().type(w, 8), b[1]);
                    Check.due("byte " + b[0] + " above", new LessonDesk().type(w, place), place == 0 ? BAD : place);
                }
                long w = without;
                Edge.refused("a byte 0 at " + place, desk -> desk.type(w, 8), BAD);
            }
            for (long w : new long[] {Long.MIN_VALUE, Long.MAX_VALUE, 0, -1}) {
                Edge.none(BAD, (desk, n) -> desk.type(w, n), LEAST, -1, 0, 1, 7, 8, 9, MOST);
            }
            Check.due("the least long with a blank", new LessonDesk().type(Long.MIN_VALUE | 32, 1), 1);
            Check.due("the greatest with a ~", new LessonDesk().type(Long.MAX_VALUE & ~129L, 1), 1);
            Check.due("the greatest eight", new LessonDesk().type(0x7E7E7E7E7E7E7E7EL, 8), 8);
        });
        Edge.test("FULL: 100.", () -> {
            Check.due("the call that fills it", typed(92).get().type(EIGHT_BLANKS, 8), 100);
            Edge.refused("one too many", typed(93), desk -> desk.type(EIGHT_BLANKS, 8), FULL);
            Check.due("the call that fills it", typed(99).get().type(EIGHT_BLANKS, 1), 100);
            Edge.refused("one too many", typed(99), desk -> desk.type(EIGHT_BLANKS, 2), FULL);
            Edge.refused("full already", typed(100), desk -> desk.type(EIGHT_BLANKS, 1), FULL);
            Edge.none(typed(100), BAD, (desk, n) -> desk.type(EIGHT_BLANKS, n), 0, 9);
            Edge.refused("a byte 31: BAD first", typed(100), desk -> desk.type(31, 1), BAD);
        });
    }

    // ---- texts

    private static void text(String text, int want) {
        Check.due("skills of '" + text + "'", Check.skills(new LessonDesk(), text), want);
    }

    private static void texts() {
        Edge.test("1 to 8 CLAUSES with ; between", () -> {
            text("", -20);
            text("a=1/1", 1);
            text(EIGHT, 8);
            text("a=1/1;", -26);
            text(";a=1/1", -20);
            text("a=1/1;;b=1/1", -26);
            text("a=1/1b=1/1", -25);
        });
        Edge.test("a SKILL (a letter a .. h, none twice)", () -> {
            text("a=1/1", 1);
            text("h=1/1", 1);
            text("`=1/1", -20);
            text("i=1/1", -20);
            text("A=1/1", -20);
            text("ab=1/1", -21);
            text("a=1/1;a=1/1", -26);
            text("h=1/1;b=1/1; h=1/1", -33);
        });
        Edge.test("= HOURS (1 .. 20)", () -> {
            text("a=1/1", 1);
            text("a=20/1", 1);
            text("a=0/1", -22);
            text("a=21/1", -22);
            text("a=/1", -22);
            text("a-1/1", -21);
            text("a1/1", -21);
        });
        Edge.test("/ GAIN (0 .. 99)", () -> {
            text("a=1/0", 1);
            text("a=1/99", 1);
            text("a=1/100", -24);
            text("a=1/-1", -24);
            text("a=1/", -24);
            text("a=1;", -23);
            text("a=1", -23);
        });
        Edge.test("and perhaps : SKILLS with , between, on which it LEANS (each told ahead in the TEXT)", () -> {
            text("a=1/1;b=1/1:a", 2);
            text(EIGHT + ":a,b,c,d,e,f,g", 8);
            text("a=1/1:", -26);
            text("a=1/1:a", -26);
            text("a=1/1:b;b=1/1", -26);
            text("a=1/1;b=1/1:b", -32);
            text("a=1/1;b=1/1:`", -32);
            text("a=1/1;b=1/1:i", -32);
            text("a=1/1;b=1/1:a,", -34);
            text("a=1/1;b=1/1:a,;", -34);
            text("a=1/1;b=1/1:a,,a", -34);
            text("a=1/1;b=1/1:a;", -34);
            text("a=1/1;b=1/1:aa", -33);
            text("a=1/1;b=1/1;c=1/1:a,b,d", -42);
        });
        faults();
    }

    private static void faults() {
        Edge.test("-20 less the place of the first byte (behind blanks) that can't stand there (the end: how many bytes"
            + " there are)", () -> {
            text("x", -20);
            text("   x", -23);
            text("a   x", -24);
            text("a=1/1 ; ;", -28);
            // The first of two: b can't stand there, nor can 0.
            text("a=1/1:b;c=0/1", -26);
            // The end: of none, of blanks, of a TAPE that is full; the last byte of such a one.
            text("", -20);
            text(" ", -21);
            text(" ".repeat(100), -120);
            text("a=5/" + " ".repeat(96), -120);
            text(" ".repeat(99) + "x", -119);
            text("a=5/9" + " ".repeat(94) + "x", -119);
            text("a=5/9" + " ".repeat(95), 1);
            text(" ".repeat(95) + "a=5/9", 1);
        });
        Edge.test("bytes 32 count for nothing, but do not stand in a number", () -> {
            text("  a  =  1  /  9  ;  b  =  2  /  3  :  a  ,  a  ", 2);
            text("a=1 0/1", -24);
            text("a=10/1 0", -27);
            text("a=1 /1", 1);
            text("a= 10/1", 1);
        });
        Edge.test("of a number that is not as it may be its first byte", () -> {
            text("a=21/1", -22);
            text("a=  21/1", -24);
            text("a=200/1", -22);
            text("a=1/100", -24);
            text("a=1/  100", -26);
            text("a=2147483648/1", -22);
            text("a=4294967297/1", -22);
            text("a=1/9223372036854775808", -24);
            text("a=1/18446744073709551617", -24);
            text("a=" + "9".repeat(98), -22);
            text("a=1/" + "9".repeat(96), -24);
        });
        Edge.test("a ninth CLAUSE's ; can't", () -> {
            text(EIGHT, 8);
            text(EIGHT + "  ", 8);
            text(EIGHT + ";", -67);
            text(EIGHT + "  ;", -69);
            text(EIGHT + ";a=1/1", -67);
            text(EIGHT + ":a;", -69);
            // Seven, and the eighth one's ; can.
            text(EIGHT.substring(0, 41) + ";", -62);
        });
    }

    private static void skills() {
        // A busy desk has a=5/9;b on THE TAPE: the end can't stand there.
        for (int look = 0; look < Look.MANY; look++) {
            if (look != Look.TAPE) {
                LessonDesk desk = Edge.busy();
                Check.due("a FAULT", desk.skills(), -27);
                String want = Look.at(Edge.busy(), look);
                Check.due("it changes no more than THE TAPE: " + want, Look.at(desk, look).equals(want));
            }
        }
        LessonDesk desk = Edge.busy();
        Check.due("a FAULT", desk.skills(), -27);
        Check.due("THE TAPE is empty", desk.type(EIGHT_BLANKS, 1), 1);
        Check.due("a FAULT", desk.skills(), -21);
        Check.due("nothing on it", desk.skills(), -20);
        Check.due("SKILLS as they were", desk.skill(3, 0), 2);
        Check.due("EXERCISED as it was", desk.odds(0, 0, 50), 1000);
        Check.due("one", Check.skills(desk, "a=3/10"), 1);
        Check.due("THE TAPE is empty", desk.type(EIGHT_BLANKS, 1), 1);
        Check.due("none such", desk.skill(3, 0), BAD);
        for (int who = 0; who < 3; who++) {
            Check.due("forgotten: ODDS", desk.odds(who, 0, 0), 0);
            Check.due("forgotten: no latest DAY, no HALF", desk.exercise(who, 0, 0, true), 16);
        }
        Check.due("a FAULT", desk.skills(), -21);
        Check.due("eight", Check.skills(desk, EIGHT), 8);
        // Of the old ones nothing comes back with SKILLS that have them again.
        Check.due("b was EXERCISED on DAY 60", desk.exercise(0, 1, 0, false), 4);
        Check.due("it is not KNOWN", desk.again(0, 1, 500), NONE);
    }

    private static void skill() {
        LessonDesk desk = new LessonDesk();
        for (int skill = 0; skill < 8; skill++) {
            Check.due("none at first", desk.skill(skill, 0), BAD);
        }
        Check.skills(desk, "a=1/0;h=20/99:a;b=2/3:a,h");
        int[][] due = {{0, 0, 1}, {0, 1, 0}, {0, 2, 0}, {7, 0, 20}, {7, 1, 99}, {7, 2, 1}, {1, 2, 129}};
        for (int[] d : due) {
            Check.due("skill(" + d[0] + ", " + d[1] + ")", desk.skill(d[0], d[1]), d[2]);
        }
        Check.skills(desk, EIGHT + ":a,b,c,d,e,f,g");
        Check.due("h leans on all", desk.skill(7, 2), 127);
        Check.due("g leans on none", desk.skill(6, 2), 0);
        Check.skills(desk, "h=1/1;b=1/1:h;a=1/1:b,b");
        Check.due("b leans on h alone", desk.skill(1, 2), 128);
        Check.due("a leans on b alone", desk.skill(0, 2), 2);
        // A busy desk has SKILLS a, b and d.
        Edge.range(0, 4, 2, 1, BAD, (busy, v) -> busy.skill(1, v));
        Edge.none(BAD, (busy, v) -> busy.skill(v, 0), -1, 2, 4, 7, 8, LEAST, MOST);
        Edge.none(BAD, (busy, v) -> busy.skill(v, v), -1, 8, LEAST, MOST);
    }

    // ---- forgetting by days

    private static LessonDesk with(String text) {
        LessonDesk desk = new LessonDesk();
        desk.learner();
        Check.skills(desk, text);
        return desk;
    }

    private static void exercise(LessonDesk desk, int day, boolean right, int times) {
        for (int i = 0; i < times; i++) {
            desk.exercise(0, 0, day, right);
        }
    }

    private static void exercises() {
        Edge.test("EXERCISED is a SKILL by a LEARNER on a DAY (0 .. 9999; never ahead of the latest one of that SKILL)",
            () -> {
                LessonDesk desk = with("a=1/1;h=1/1");
                desk.learner();
                Check.due("DAY 0", desk.exercise(0, 0, 0, true), 16);
                Check.due("that DAY again", desk.exercise(0, 0, 0, true), 32);
                Check.due("DAY 9999", desk.exercise(0, 0, 9999, true), 64);
                Check.due("that DAY again", desk.exercise(0, 0, 9999, true), 128);
                Check.due("the DAY ahead", desk.exercise(0, 0, 9998, true), NOT);
                Check.due("DAY 0", desk.exercise(0, 0, 0, true), NOT);
                Check.due("another SKILL", desk.exercise(0, 7, 0, true), 16);
                Check.due("another LEARNER", desk.exercise(1, 0, 0, true), 16);
            });
        Edge.test("HALF (8 at first) doubles, if it was right (512 at most), else becomes half (1 at least)", () -> {
            LessonDesk desk = with("a=1/1;b=1/1");
            for (int half : new int[] {16, 32, 64, 128, 256, 512, 512, 512}) {
                Check.due("right", desk.exercise(0, 0, 0, true), half);
            }
            Check.due("wrong", desk.exercise(0, 0, 0, false), 256);
            for (int half : new int[] {4, 2, 1, 1, 1}) {
                Check.due("wrong", desk.exercise(0, 1, 0, false), half);
            }
            Check.due("right", desk.exercise(0, 1, 0, true), 2);
        });
        Edge.test("it is KNOWN from the first right one on", () -> {
            LessonDesk desk = with("a=1/1");
            Check.due("never EXERCISED", desk.again(0, 0, 500), NONE);
            exercise(desk, 5, false, 1);
            Check.due("wrong", desk.again(0, 0, 500), NONE);
            exercise(desk, 5, true, 1);
            Check.due("right", desk.again(0, 0, 500), 5 + 9);
            exercise(desk, 6, false, 1);
            Check.due("wrong again", desk.again(0, 0, 500), 6 + 5);
        });
        Edge.test("EXERCISED on a DAY, right or not: HALF then. BAD; NOT: a DAY ahead of the latest one.", () -> {
            Edge.range(0, 32, 2, 8, BAD, (desk, v) -> desk.exercise(v, 0, 100, true));
            // SKILLS a, b and d, of which LEARNER 2 EXERCISED a alone.
            Edge.range(0, 8, 1, 16, BAD, (desk, v) -> desk.exercise(2, v, 100, true));
            Edge.none(BAD, (desk, v) -> desk.exercise(2, v, 100, true), 4, 7, 8);
            Edge.range(0, 16, 9999, 16, BAD, (desk, v) -> desk.exercise(2, 1, v, true));
            Edge.none(BAD, (desk, v) -> desk.exercise(2, 1, v, false), -1, 10000, LEAST, MOST);
            Check.due("the latest DAY", Edge.busy().exercise(0, 1, 60, false), 4);
            Edge.none(NOT, (desk, v) -> desk.exercise(0, 1, v, true), 59, 0);
            Edge.none(NOT, (desk, v) -> desk.exercise(0, 1, v, false), 59, 0);
            // Below 0 is ahead of the latest one, too.
            Edge.none(BAD, (desk, v) -> desk.exercise(0, 1, v, true), -1, LEAST);
            Edge.refused("no SKILL, an early DAY", desk -> desk.exercise(0, 2, 0, true), BAD);
            Edge.refused("no LEARNER, an early DAY", desk -> desk.exercise(3, 1, 0, true), BAD);
        });
    }

    private static void odds() {
        Edge.test("1000 HALF by (HALF and DAYS since it was EXERCISED), 0 if not KNOWN", () -> {
            LessonDesk desk = with("a=1/1");
            Check.due("never EXERCISED, DAY 0", desk.odds(0, 0, 0), 0);
            Check.due("never EXERCISED, DAY 9999", desk.odds(0, 0, 9999), 0);
            exercise(desk, 0, false, 3);
            Check.due("not KNOWN", desk.odds(0, 0, 0), 0);
            exercise(desk, 0, true, 1);
            exercise(desk, 0, false, 1);
            // HALF is 1.
            int[][] due = {{0, 1000}, {1, 500}, {2, 333}, {998, 1}, {999, 1}, {1000, 0}, {9999, 0}};
            for (int[] d : due) {
                Check.due("HALF 1, DAY " + d[0], desk.odds(0, 0, d[0]), d[1]);
            }
            exercise(desk, 0, true, 9);
            int[][] high = {{0, 1000}, {1, 998}, {512, 500}, {513, 499}, {9999, 48}};
            for (int[] d : high) {
                Check.due("HALF 512, DAY " + d[0], desk.odds(0, 0, d[0]), d[1]);
            }
        });
        Edge.test("ODDS on a DAY. BAD; NOT: a DAY ahead of the latest one.", () -> {
            Edge.range(0, 242, 2, 0, BAD, (desk, v) -> desk.odds(v, 0, 100));
            Edge.range(0, 242, 1, 166, BAD, (desk, v) -> desk.odds(0, v, 100));
            Edge.none(BAD, (desk, v) -> desk.odds(0, v, 100), -1, 2, 4, 7, 8, LEAST, MOST);
            Edge.range(0, 0, 9999, 0, BAD, (desk, v) -> desk.odds(2, 1, v));
            Check.due("the latest DAY", Edge.busy().odds(0, 1, 60), 1000);
            Edge.none(NOT, (desk, v) -> desk.odds(0, 1, v), 59, 0);
            // LEARNER 2 does not know a, yet EXERCISED it on DAY 7.
            Check.due("not KNOWN, the latest DAY", Edge.busy().odds(2, 0, 7), 0);
            Edge.refused("not KNOWN, an early DAY", desk -> desk.odds(2, 0, 6), NOT);
            Edge.none(BAD, (desk, v) -> desk.odds(0, 1, v), -1, 10000, LEAST, MOST);
            Edge.refused("no SKILL, an early DAY", desk -> desk.odds(0, 2, 0), BAD);
            Edge.refused("no LEARNER, an early DAY", desk -> desk.odds(3, 1, 0), BAD);
        });
    }

    private static void again() {
        Edge.test("FADED it is, if ODDS are below a told number. TO ASK AGAIN: the first DAY on which it is FADED.", () -> {
            LessonDesk desk = with("a=1/1");
            exercise(desk, 100, true, 1);
            // HALF is 16: ODDS are 1000, 941, 888 .. and 500 after 16 DAYS.
            int[][] due = {{1000, 101}, {942, 101}, {941, 102}, {889, 102}, {888, 103}, {501, 116}, {500, 117}};
            for (int[] d : due) {
                Check.due("below " + d[0], desk.again(0, 0, d[0]), d[1]);
                Check.due("ODDS then", desk.odds(0, 0, d[1]) < d[0]);
                Check.due("ODDS the DAY ahead", desk.odds(0, 0, d[1] - 1) >= d[0]);
            }
            // Only below 0.1: 1000 HALF by more than 1000 HALF.
            Check.due("below 1", desk.again(0, 0, 1), 100 + 15985);
            exercise(desk, 9999, false, 4);
            Check.due("HALF 1, below 1000", desk.again(0, 0, 1000), 10000);
            Check.due("HALF 1, below 1", desk.again(0, 0, 1), 9999 + 1000);
            exercise(desk, 9999, true, 9);
            Check.due("HALF 512, below 1000", desk.again(0, 0, 1000), 10000);
            Check.due("HALF 512, below 1", desk.again(0, 0, 1), 9999 + 511489);
        });
        Edge.test("TO ASK AGAIN, ODDS below v (1 .. 1000). BAD; NONE: not KNOWN.", () -> {
            Edge.range(1, 50 + 15985, 1000, 51, BAD, (desk, v) -> desk.again(0, 0, v));
            Edge.none(BAD, (desk, v) -> desk.again(v, 0, 500), -1, 3, 12, LEAST, MOST);
            Edge.none(BAD, (desk, v) -> desk.again(0, v, 500), -1, 2, 4, 7, 8, LEAST, MOST);
            Edge.refused("never EXERCISED", desk -> desk.again(1, 0, 500), NONE);
            Edge.refused("EXERCISED, but wrong", desk -> desk.again(2, 0, 500), NONE);
            // Not KNOWN, too: BAD first.
            Edge.none(BAD, (desk, v) -> desk.again(2, 0, v), 0, 1001, LEAST, MOST);
            Edge.refused("no SKILL, not KNOWN", desk -> desk.again(2, 2, 500), BAD);
            Edge.refused("no LEARNER, not KNOWN", desk -> desk.again(3, 0, 500), BAD);
        });
    }

    // ---- ways

    private static void way(LessonDesk desk, int day, int hours, int bits, int gain, int took) {
        String call = "way on DAY " + day + " within " + hours + ", ";
        Check.due(call + "SKILLS", desk.way(0, day, hours, 0), bits);
        Check.due(call + "GAIN", desk.way(0, day, hours, 1), gain);
        Check.due(call + "HOURS", desk.way(0, day, hours, 2), took);
    }

    private static void ways() {
        Edge.test("SKILLS that are not held (KNOWN with ODDS of 500 or more)", () -> {
            LessonDesk desk = with("a=1/7");
            way(desk, 0, 1, 1, 7, 1);
            exercise(desk, 0, false, 1);
            // Not KNOWN, and ODDS are 0.
            way(desk, 0, 1, 1, 7, 1);
            exercise(desk, 0, true, 1);
            // HALF is 8: ODDS are 500 on DAY 8, 470 on DAY 9.
            way(desk, 0, 1, 0, 0, 0);
            way(desk, 8, 1, 0, 0, 0);
            way(desk, 9, 1, 1, 7, 1);
            exercise(desk, 9, true, 9);
            // 512000 by 1024 and by 1025.
            way(desk, 9 + 512, 1, 0, 0, 0);
            way(desk, 9 + 513, 1, 1, 7, 1);
            way(desk, 9999, 1, 1, 7, 1);
        });
        Edge.test("each with all on which it LEANS held or in the WAY", () -> {
            LessonDesk desk = with("a=1/1;h=1/1;b=1/9:a,h");
            way(desk, 0, 1, 1, 1, 1);
            way(desk, 0, 2, 129, 2, 2);
            way(desk, 0, 3, 131, 11, 3);
            exercise(desk, 0, true, 1);
            // HALF is 16: a is held up to DAY 16.
            way(desk, 16, 1, 128, 1, 1);
            way(desk, 16, 2, 130, 10, 2);
            way(desk, 17, 2, 129, 2, 2);
            desk.exercise(0, 7, 17, true);
            way(desk, 17, 2, 3, 10, 2);
            // a may lean as well as any other: on h, which leans on b.
            LessonDesk back = with("b=1/0;h=1/0:b;a=1/9:h");
            way(back, 0, 1, 0, 0, 0);
            way(back, 0, 2, 0, 0, 0);
            way(back, 0, 3, 131, 9, 3);
        });
        Edge.test("of HOURS no more than told together", () -> {
            LessonDesk desk = with("a=20/1");
            way(desk, 0, 0, 0, 0, 0);
            way(desk, 0, 19, 0, 0, 0);
            way(desk, 0, 20, 1, 1, 20);
            way(desk, 0, 21, 1, 1, 20);
            Check.skills(desk, EIGHT.replace("=1/1", "=20/99"));
            way(desk, 0, 160, 255, 792, 160);
            way(desk, 0, 159, 127, 693, 140);
            way(desk, 0, 140, 127, 693, 140);
            way(desk, 0, 139, 63, 594, 120);
        });
        Edge.test("of most GAIN; of like ones of fewest HOURS; of like ones the least bits (a: 1, b: 2, ..)", () -> {
            way(with("a=2/9;b=1/8;h=2/10"), 0, 2, 128, 10, 2);
            way(with("a=2/9;h=1/9"), 0, 2, 128, 9, 1);
            way(with("h=1/9;b=1/9;a=2/9"), 0, 1, 2, 9, 1);
            way(with("a=3/10;b=1/5;c=1/5"), 0, 3, 6, 10, 2);
            way(with("a=1/4;b=1/5;c=1/5;d=1/6"), 0, 2, 10, 11, 2);
            // What has no GAIN stays away, unless another one LEANS on it.
            way(with("a=1/0"), 0, 160, 0, 0, 0);
            way(with("a=1/0;b=1/1:a"), 0, 160, 3, 1, 2);
        });
        Edge.test("A WAY within HOURS (0 .. 160) on a DAY: SKILLS as bits (0), GAIN (1), HOURS (2).", () -> {
            // Of LEARNER 2, who holds nothing: a, b (on a) and d.
            Edge.range(0, 0, 160, 11, BAD, (desk, v) -> desk.way(2, 7, v, 0));
            Edge.range(0, 11, 2, 9, BAD, (desk, v) -> desk.way(2, 7, 160, v));
            Edge.range(0, 11, 2, 11, BAD, (desk, v) -> desk.way(v, 200, 160, 0));
            LessonDesk none = new LessonDesk();
            none.learner();
            way(none, 0, 160, 0, 0, 0);
            way(none, 9999, 0, 0, 0, 0);
        });
        Edge.test("BAD; NOT: a DAY ahead of the latest one of any SKILL.", () -> {
            // LEARNER 0 EXERCISED a on DAY 50, b on DAY 60; LEARNER 1 d on DAY 10; LEARNER 2 a on DAY 7, wrong.
            Check.due("DAY 60", Edge.busy().way(0, 60, 160, 0), 8);
            Edge.none(NOT, (desk, v) -> desk.way(0, v, 160, 0), 59, 50, 49, 0);
            Check.due("DAY 10", Edge.busy().way(1, 10, 160, 0), 3);
            Edge.none(NOT, (desk, v) -> desk.way(1, v, 160, 0), 9, 0);
            Check.due("DAY 7", Edge.busy().way(2, 7, 160, 0), 11);
            Edge.none(NOT, (desk, v) -> desk.way(2, v, 160, 0), 6, 0);
            Edge.none(BAD, (desk, v) -> desk.way(0, v, 160, 0), -1, 10000, LEAST, MOST);
            Check.due("DAY 9999", Edge.busy().way(0, 9999, 160, 0), 11);
            // An early DAY, too: BAD first.
            Edge.none(BAD, (desk, v) -> desk.way(0, 59, v, 0), -1, 161, LEAST, MOST);
            Edge.none(BAD, (desk, v) -> desk.way(0, 59, 160, v), -1, 3, LEAST, MOST);
            Edge.none(BAD, (desk, v) -> desk.way(v, 0, 160, 0), -1, 3, 12, LEAST, MOST);
        });
    }
}
