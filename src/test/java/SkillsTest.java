/** Promises 19 to 25: the tape, skills as a text, forgetting, ways within hours. */
public final class SkillsTest {
    public static void main(String[] args) {
        tape();
        texts();
        faults();
        oneSkill();
        forgotten();
        exercises();
        odds();
        again();
        ways();
        waysOnDays();
        Check.end();
    }

    private static void tape() {
        LessonDesk desk = new LessonDesk();
        Check.due("n 0", desk.type(65, 0), LessonDesk.BAD);
        Check.due("n 9", desk.type(0x4141414141414141L, 9), LessonDesk.BAD);
        Check.due("a byte 31", desk.type(31, 1), LessonDesk.BAD);
        Check.due("a byte 127", desk.type(127, 1), LessonDesk.BAD);
        Check.due("a byte 200", desk.type(200, 1), LessonDesk.BAD);
        Check.due("a byte 0 within", desk.type(0x200020L, 3), LessonDesk.BAD);
        Check.due("a byte 255 first", desk.type(-1L << 56 | 0x20202020202020L, 8), LessonDesk.BAD);
        // Higher bytes than the lowest n are not looked at.
        Check.due("32 and 126", desk.type(0xFF0000000000207EL, 2), 2);
        for (int i = 1; i <= 12; i++) {
            Check.due("eight more", desk.type(0x2020202020202020L, 8), 2 + 8 * i);
        }
        Check.due("beyond 100", desk.type(0x202020L, 3), LessonDesk.FULL);
        Check.due("BAD first", desk.type(0x001020L, 3), LessonDesk.BAD);
        Check.due("just 100", desk.type(0x2020L, 2), 100);
        Check.due("no more", desk.type(0x20L, 1), LessonDesk.FULL);
        Check.due("~ can't stand there", desk.skills(), -21);
        Check.due("the tape is empty", desk.type(0x20L, 1), 1);
        Check.due("a blank tape", desk.skills(), -21);
        Check.due("the highest byte first", desk.type(0x613D352F39L, 5), 5);
        Check.due("a=5/9", desk.skills(), 1);
        Check.due("the tape is empty again", desk.skills(), -20);
        Check.due("5 hours", desk.skill(0, 0), 5);
        Check.due("a gain of 9", desk.skill(0, 1), 9);
    }

    private static void text(String text, int want) {
        Check.due("skills of '" + text + "'", Check.skills(new LessonDesk(), text), want);
    }

    private static void texts() {
        text("a=1/0", 1);
        text("h=20/99", 1);
        text("a=5/9;b=3/4:a", 2);
        text("h=5/9;a=3/4:h", 2);
        text(" b = 2 / 3 ; a = 4 / 5 : b , b ", 2);
        text("a=1/1;b=1/1;c=1/1;d=1/1;e=1/1;f=1/1;g=1/1;h=1/1:a,b,c,d,e,f,g", 8);
        text("a=05/009", 1);
        // THE TAPE is full to its last byte.
        text("a=5/9" + " ".repeat(95), 1);
        text(" ".repeat(95) + "a=5/9", 1);
        text(" ".repeat(100), -120);
        text("a=5/" + " ".repeat(96), -120);
        text("b=1/1;a=5/9:" + "b,".repeat(43) + "b ", 2);
        text("b=1/1;a=5/9:" + "b,".repeat(44), -120);
    }

    private static void faults() {
        text("", -20);
        text("   ", -23);
        text("i=1/1", -20);
        text("A=1/1", -20);
        text("  x", -22);
        text("a", -21);
        text("a  ", -23);
        text("a 1", -22);
        text("a=", -22);
        text("a=x", -22);
        text("a=0/1", -22);
        text("a=00/1", -22);
        text("a=21/1", -22);
        text("a= 99999999999999999999/1", -23);
        text("a=4294967297/1", -22);
        text("a=-1/1", -22);
        text("a=5", -23);
        text("a=1 2/3", -24);
        text("a=5;", -23);
        text("a=5/", -24);
        text("a=5/100", -24);
        text("a=5/ 4294967296", -25);
        text("a=5/9 9", -26);
        text("a=5/9x", -25);
        text("a=5/9,", -25);
        text("a=5/9;", -26);
        text("a=5/9; ", -27);
        text("a=5/9;;", -26);
        text("a=5/9;a=3/4", -26);
        text("a=5/9:", -26);
        text("a=5/9:a", -26);
        text("a=5/9:b;b=1/1", -26);
        text("a=5/9;b=3/4:", -32);
        text("a=5/9;b=3/4:a,", -34);
        text("a=5/9;b=3/4:a,c", -34);
        text("a=5/9;b=3/4:a a", -34);
        text("a=5/9;b=3/4:a:", -33);
        text("a=5/9;b=3/4:aa", -33);
        text("a=5/9;b=3/4:,", -32);
        text("a=1/1;b=1/1;c=1/1;d=1/1;e=1/1;f=1/1;g=1/1;h=1/1;", -67);
        text("a=1/1;b=1/1;c=1/1;d=1/1;e=1/1;f=1/1;g=1/1;h=1/1 ;", -68);
    }

    private static void oneSkill() {
        LessonDesk desk = new LessonDesk();
        Check.skills(desk, "h=7/8;a=20/99:h;c=1/0:h,a");
        int[][] want = {{0, 20, 99, 128}, {2, 1, 0, 129}, {7, 7, 8, 0}};
        for (int[] w : want) {
            for (int what = 0; what < 3; what++) {
                Check.due("skill(" + w[0] + ", " + what + ")", desk.skill(w[0], what), w[1 + what]);
            }
            Check.due("what 3", desk.skill(w[0], 3), LessonDesk.BAD);
            Check.due("what -1", desk.skill(w[0], -1), LessonDesk.BAD);
        }
        Check.due("none such", desk.skill(1, 0), LessonDesk.BAD);
        Check.due("skill 8", desk.skill(8, 0), LessonDesk.BAD);
        Check.due("skill -1", desk.skill(-1, 0), LessonDesk.BAD);
        // A FAULT leaves the SKILLS as they were, even if clauses stood ahead of it.
        Check.due("a fault", Check.skills(desk, "b=1/1;a=2/2;"), -32);
        Check.due("as it was", desk.skill(0, 0), 20);
        Check.due("none such still", desk.skill(1, 0), LessonDesk.BAD);
        Check.due("new skills", Check.skills(desk, "b=1/1"), 1);
        Check.due("the old are gone", desk.skill(0, 0), LessonDesk.BAD);
        Check.due("the old lean no more", Check.skills(desk, "a=1/1;c=2/2"), 2);
        Check.due("leans on none", desk.skill(2, 2), 0);
    }

    private static void forgotten() {
        LessonDesk desk = new LessonDesk();
        desk.learner();
        Check.skills(desk, "a=1/1");
        Check.due("exercised", desk.exercise(0, 0, 100, true), 16);
        Check.due("a fault", Check.skills(desk, "a=1"), -23);
        Check.due("not forgotten", desk.odds(0, 0, 100), 1000);
        Check.due("the same text", Check.skills(desk, "a=1/1"), 1);
        Check.due("forgotten", desk.odds(0, 0, 100), 0);
        Check.due("an earlier day", desk.exercise(0, 0, 5, false), 4);
        Check.due("not known", desk.odds(0, 0, 5), 0);
    }

    private static void exercises() {
        LessonDesk desk = new LessonDesk();
        Check.due("no learner", desk.exercise(0, 0, 0, true), LessonDesk.BAD);
        desk.learner();
        desk.learner();
        Check.due("no skill", desk.exercise(0, 0, 0, true), LessonDesk.BAD);
        Check.skills(desk, "a=1/1;b=1/1");
        int half = 8;
        for (int day = 0; day < 8; day++) {
            half = Math.min(512, 2 * half);
            Check.due("right", desk.exercise(0, 0, day, true), half);
        }
        for (int i = 0; i < 11; i++) {
            half = Math.max(1, half / 2);
            Check.due("wrong", desk.exercise(0, 0, 9999, false), half);
        }
        Check.due("half 1", half, 1);
        Check.due("an earlier day", desk.exercise(0, 0, 9998, true), LessonDesk.NOT);
        Check.due("nothing came of it", desk.exercise(0, 0, 9999, true), 2);
        Check.due("another skill", desk.exercise(0, 1, 0, true), 16);
        Check.due("another learner", desk.exercise(1, 0, 0, false), 4);
        Check.due("day 10000", desk.exercise(0, 0, 10000, true), LessonDesk.BAD);
        Check.due("day -1", desk.exercise(0, 0, -1, true), LessonDesk.BAD);
        Check.due("none such", desk.exercise(0, 2, 0, true), LessonDesk.BAD);
        Check.due("skill 8", desk.exercise(0, 8, 0, true), LessonDesk.BAD);
        Check.due("learner 2", desk.exercise(2, 0, 0, true), LessonDesk.BAD);
    }

    private static void odds() {
        LessonDesk desk = new LessonDesk();
        desk.learner();
        Check.skills(desk, "a=1/1;b=1/1");
        Check.due("never exercised", desk.odds(0, 0, 0), 0);
        desk.exercise(0, 0, 10, false);
        Check.due("not known", desk.odds(0, 0, 10), 0);
        Check.due("not known, ahead", desk.odds(0, 0, 9), LessonDesk.NOT);
        desk.exercise(0, 0, 10, true);
        Check.due("half 8, same day", desk.odds(0, 0, 10), 1000);
        Check.due("half 8, 1 day", desk.odds(0, 0, 11), 888);
        Check.due("half 8, 8 days", desk.odds(0, 0, 18), 500);
        Check.due("half 8, 9989 days", desk.odds(0, 0, 9999), 0);
        desk.exercise(0, 0, 12, false);
        Check.due("still known, half 4", desk.odds(0, 0, 13), 800);
        Check.due("ahead", desk.odds(0, 0, 11), LessonDesk.NOT);
        Check.due("BAD first", desk.odds(0, 0, -1), LessonDesk.BAD);
        Check.due("day 10000", desk.odds(0, 0, 10000), LessonDesk.BAD);
        Check.due("none such", desk.odds(0, 2, 13), LessonDesk.BAD);
        Check.due("no learner", desk.odds(1, 0, 13), LessonDesk.BAD);
    }

    private static void again() {
        LessonDesk desk = new LessonDesk();
        desk.learner();
        Check.skills(desk, "a=1/1;b=1/1");
        Check.due("never exercised", desk.again(0, 0, 500), LessonDesk.NONE);
        desk.exercise(0, 0, 100, false);
        Check.due("not known", desk.again(0, 0, 500), LessonDesk.NONE);
        desk.exercise(0, 0, 100, true);
        Check.due("below 1000", desk.again(0, 0, 1000), 101);
        Check.due("below 889: 888 after a day", desk.again(0, 0, 889), 101);
        Check.due("below 888: 800 after two", desk.again(0, 0, 888), 102);
        Check.due("below 500", desk.again(0, 0, 500), 109);
        Check.due("below 501", desk.again(0, 0, 501), 108);
        // The DAY is told, even if it is beyond 9999.
        Check.due("below 1", desk.again(0, 0, 1), 100 + 7993);
        desk.exercise(0, 0, 200, true);
        desk.exercise(0, 0, 9999, true);
        Check.due("below 1, half 32", desk.again(0, 0, 1), 9999 + 999 * 32 + 1);
        Check.due("v 0", desk.again(0, 0, 0), LessonDesk.BAD);
        Check.due("v 1001", desk.again(0, 0, 1001), LessonDesk.BAD);
        Check.due("none such", desk.again(0, 2, 500), LessonDesk.BAD);
        Check.due("no learner", desk.again(1, 0, 500), LessonDesk.BAD);
        Check.due("BAD first", desk.again(0, 1, 1001), LessonDesk.BAD);
    }

    private static void way(LessonDesk desk, int day, int hours, int bits, int gain, int took) {
        String call = "way on day " + day + " within " + hours + ", ";
        Check.due(call + "skills", desk.way(0, day, hours, 0), bits);
        Check.due(call + "gain", desk.way(0, day, hours, 1), gain);
        Check.due(call + "hours", desk.way(0, day, hours, 2), took);
    }

    private static void ways() {
        LessonDesk desk = new LessonDesk();
        Check.due("no learner", desk.way(0, 0, 10, 0), LessonDesk.BAD);
        desk.learner();
        way(desk, 0, 160, 0, 0, 0);
        Check.skills(desk, "a=3/10;b=4/20:a;c=2/8;d=5/30:b,c;e=1/0");
        way(desk, 0, 0, 0, 0, 0);
        way(desk, 0, 1, 0, 0, 0);
        way(desk, 0, 2, 4, 8, 2);
        way(desk, 0, 3, 1, 10, 3);
        way(desk, 0, 5, 5, 18, 5);
        way(desk, 0, 7, 3, 30, 7);
        way(desk, 0, 13, 7, 38, 9);
        way(desk, 0, 14, 15, 68, 14);
        way(desk, 0, 160, 15, 68, 14);
        // Of like GAIN the fewest HOURS, then the least bits.
        Check.skills(desk, "a=2/10;b=1/5;c=1/5;d=1/10:b;e=1/10");
        way(desk, 0, 2, 10, 15, 2);
        Check.skills(desk, "a=4/10;b=3/10;c=3/10");
        way(desk, 0, 4, 2, 10, 3);
        way(desk, 0, 6, 6, 20, 6);
        way(desk, 0, 7, 6, 20, 6);
        Check.skills(desk, "a=1/1");
        way(desk, 0, 1, 1, 1, 1);
        Check.skills(desk, "h=5/1;a=1/50:h");
        way(desk, 0, 4, 0, 0, 0);
        way(desk, 0, 5, 128, 1, 5);
        way(desk, 0, 6, 129, 51, 6);
        Check.due("day -1", desk.way(0, -1, 10, 0), LessonDesk.BAD);
        Check.due("day 10000", desk.way(0, 10000, 10, 0), LessonDesk.BAD);
        Check.due("hours -1", desk.way(0, 0, -1, 0), LessonDesk.BAD);
        Check.due("hours 161", desk.way(0, 0, 161, 0), LessonDesk.BAD);
        Check.due("what 3", desk.way(0, 0, 10, 3), LessonDesk.BAD);
        Check.due("what -1", desk.way(0, 0, 10, -1), LessonDesk.BAD);
        Check.due("learner 1", desk.way(1, 0, 10, 0), LessonDesk.BAD);
    }

    private static void waysOnDays() {
        LessonDesk desk = new LessonDesk();
        desk.learner();
        desk.learner();
        Check.skills(desk, "a=3/10;b=4/20:a;c=2/8:b");
        desk.exercise(0, 0, 50, false);
        way(desk, 50, 4, 1, 10, 3);
        desk.exercise(0, 0, 50, true);
        // HALF is 8: a is held for 8 days more, and b may be learnt without it.
        way(desk, 58, 4, 2, 20, 4);
        way(desk, 58, 6, 6, 28, 6);
        way(desk, 59, 4, 1, 10, 3);
        way(desk, 59, 7, 3, 30, 7);
        Check.due("ahead of the latest of a", desk.way(0, 49, 4, 0), LessonDesk.NOT);
        // b is held while a is not: c may be learnt.
        desk.exercise(0, 1, 59, true);
        way(desk, 60, 4, 1, 10, 3);
        way(desk, 60, 2, 4, 8, 2);
        way(desk, 60, 9, 5, 18, 5);
        Check.due("ahead of the latest of any", desk.way(0, 58, 4, 0), LessonDesk.NOT);
        Check.due("BAD first", desk.way(0, 58, 161, 0), LessonDesk.BAD);
        Check.due("another's days", desk.way(1, 0, 3, 0), 1);
        // 1000 times 512 by 1025 is 499: no longer held.
        for (int i = 0; i < 6; i++) {
            desk.exercise(1, 0, 0, true);
        }
        Check.due("500", desk.odds(1, 0, 512), 500);
        Check.due("499", desk.odds(1, 0, 513), 499);
        Check.due("held", desk.way(1, 512, 3, 0), 0);
        Check.due("not held", desk.way(1, 513, 3, 0), 1);
    }
}
