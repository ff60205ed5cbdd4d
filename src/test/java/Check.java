/** Compares answers with those that are due, and ends a test. */
final class Check {
    private static int checks = 0;
    private static int wrong = 0;
    private static String about = "";

    private Check() {
    }

    /** What the next checks are about: told ahead of each that is wrong. */
    static void about(String words) {
        about = words.isEmpty() ? "" : "[" + words + "] ";
    }

    static int checks() {
        return checks;
    }

    static void due(String call, long got, long want) {
        checks++;
        if (got != want) {
            wrong++;
            System.out.println(about + call + " answered " + got + ", due is " + want);
        }
    }

    static void due(String what, boolean holds) {
        due(what, holds ? 1 : 0, 1);
    }

    /** Types a text on the tape, eight bytes a call at most. */
    static void type(LessonDesk desk, String text) {
        for (int from = 0; from < text.length(); from += 8) {
            String part = text.substring(from, Math.min(text.length(), from + 8));
            long w = 0;
            for (char c : part.toCharArray()) {
                w = w << 8 | c;
            }
            desk.type(w, part.length());
        }
    }

    static int skills(LessonDesk desk, String text) {
        type(desk, text);
        return desk.skills();
    }

    /** A SHEET holds these items. */
    static void fill(LessonDesk desk, int sheet, int lane, int... items) {
        due("sheet", desk.sheet(sheet, lane, items.length), items.length);
        for (int i = 0; i < items.length; i++) {
            due("item", desk.item(sheet, lane, i, items[i]), 1);
        }
    }

    static void end() {
        System.out.println(checks + " checks, " + wrong + " wrong");
        if (wrong != 0 || checks == 0) {
            System.exit(1);
        }
    }
}
