/**
 * What a desk tells of its state. A look changes the desk, and takes up to 400 of its 512 calls:
 * each is for a desk of its own.
 */
final class Look {
    static final int MANY = 12;
    static final int HINT = 4;
    static final int TAPE = 5;

    private static final int FAR = Integer.MAX_VALUE;

    private Look() {
    }

    static String at(LessonDesk desk, int look) {
        StringBuilder told = new StringBuilder();
        switch (look) {
            case 0 -> learners(desk, told);
            case 1 -> points(desk, told);
            case 2 -> asides(desk, told);
            case 3 -> marks(desk, told);
            case HINT -> told.append("hint ").append(desk.hint(52, 17, 0, 0));
            case TAPE -> tape(desk, told);
            case 6 -> exercised(desk, told);
            case 7 -> trial(desk, told);
            default -> sheet(desk, look - 8, told);
        }
        return told.toString();
    }

    private static void learners(LessonDesk desk, StringBuilder told) {
        for (int who = 0; who < 12; who++) {
            told.append(" learner ").append(who);
            for (int what = 0; what < 4; what++) {
                told.append(' ').append(desk.count(who, what));
            }
            told.append(' ').append(desk.lead(who)).append(' ').append(desk.guess(who));
        }
        for (int what = 0; what < 4; what++) {
            told.append(" strange ").append(desk.strange(what));
        }
        told.append(" next ").append(desk.learner());
    }

    private static void points(LessonDesk desk, StringBuilder told) {
        for (int who = 0; who < 2; who++) {
            for (int set = 0; set < 256; set++) {
                if (Integer.bitCount(set) <= 3) {
                    told.append(' ').append(desk.points(who, set));
                }
            }
        }
    }

    private static void asides(LessonDesk desk, StringBuilder told) {
        for (int who = 0; who < 3; who++) {
            for (int i = 0; i <= 40; i++) {
                told.append(' ').append(desk.aside(who, i, false));
            }
        }
    }

    private static void marks(LessonDesk desk, StringBuilder told) {
        for (int what = 0; what < 5; what++) {
            told.append(' ').append(desk.set(what, 1));
        }
    }

    private static void course(LessonDesk desk, StringBuilder told) {
        for (int skill = 0; skill < 8; skill++) {
            for (int what = 0; what < 3; what++) {
                told.append(' ').append(desk.skill(skill, what));
            }
        }
    }

    private static void tape(LessonDesk desk, StringBuilder told) {
        told.append(" typed ").append(desk.type('=', 1)).append(' ').append(desk.type('7', 1));
        told.append(" skills ").append(desk.skills());
        course(desk, told);
    }

    private static void exercised(LessonDesk desk, StringBuilder told) {
        course(desk, told);
        int[] days = {0, 6, 7, 9, 10, 11, 49, 50, 51, 59, 60, 61};
        for (int who = 0; who < 3; who++) {
            for (int skill = 0; skill < 4; skill++) {
                for (int day : days) {
                    told.append(' ').append(desk.odds(who, skill, day));
                }
                told.append(" again ").append(desk.again(who, skill, 500));
                told.append(" half ").append(desk.exercise(who, skill, 9999, true));
            }
        }
    }

    private static void trial(LessonDesk desk, StringBuilder told) {
        told.append(" by ").append(desk.by(0)).append('/').append(desk.by(1));
        told.append(" share ").append(desk.share()).append(" verdict ").append(desk.verdict());
        told.append(" many ").append(desk.ends());
    }

    /** Which LANE a SHEET has, how many items, and the first six and the last one of these. */
    private static void sheet(LessonDesk desk, int sheet, StringBuilder told) {
        for (int lane = 0; lane < 3; lane++) {
            int answer = desk.item(sheet, lane, FAR, 0);
            told.append(" lane ").append(answer);
            if (answer == LessonDesk.INDEX) {
                for (int i = 0; i < 6; i++) {
                    told.append(' ').append(itemAt(desk, sheet, lane, i));
                }
                told.append(" last ").append(itemAt(desk, sheet, lane, 39));
            }
        }
        told.append(" many ").append(desk.drop(sheet));
    }

    /** An item (0 .. 999), told by the STRANGE ANSWER to 0 less 0 that it is; LEARNER 1 gives it. */
    private static String itemAt(LessonDesk desk, int sheet, int lane, int i) {
        int other = (sheet + 1) % 4;
        desk.sheet(other, lane, 3);
        int copied = desk.copy(sheet, i, other, 2, 1);
        int many = desk.answers(1, other, lane, 0, 1);
        String told = copied + "," + many + "," + desk.strange(1) + "," + desk.strange(3);
        desk.aside(1, many - 1, true);
        return told;
    }
}
