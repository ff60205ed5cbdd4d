import java.util.Random;

/** Runs of some 500 calls, drawn with fixed seeds, on the desk and on PlainDesk: the answers are alike. */
public final class RandomRunsTest {
    private static final int RUNS = 300;
    /** An object is for 512 calls; a text takes up to nine of them at once. */
    private static final int CALLS = 512 - 9;
    private static final String[] TEXTS = {
        "a=3/10;b=4/20:a;c=2/8;d=5/30:b,c;e=1/0", "a=5/9", "h=1/99;g=20/0:h;a=2/2",
        " b = 2 / 3 ; a = 4 / 5 : b , b ", "a=1/1;b=1/1;c=1/1;d=1/1;e=1/1;f=1/1;g=1/1;h=1/1:a,b,c,d",
        "a=01/007;c=2/08:a", "a=1/5;b=1/5;c=2/10;d=2/10:a", "a=1/1;b=1/1;c=1/1;d=1/1;e=1/1;f=1/1;g=1/1;h=1/1;",
        "a=0/1", "a=1 0/4", "b=1/1:a", "a=20/99 ;  b = 3/4 : a;", "", "   ", "a=4/100"
    };

    private final Random random;
    private final LessonDesk desk = new LessonDesk();
    private final PlainDesk plain = new PlainDesk();
    private String call;
    private int calls = 0;
    private int lastMuch = 52;
    private int lastLess = 17;
    private int day = 0;

    private RandomRunsTest(int seed) {
        random = new Random(seed);
    }

    public static void main(String[] args) {
        for (int seed = 1; seed <= RUNS; seed++) {
            new RandomRunsTest(seed).run(seed);
        }
        Check.end();
    }

    private void run(int seed) {
        // Each run leans to one part of the document, so that its state grows rich enough.
        int part = seed % 6;
        while (calls < CALLS) {
            calls++;
            int of = part < 5 && random.nextInt(10) < 8 ? part : random.nextInt(5);
            int[] both = of == 0 ? works() : of == 1 ? learners() : of == 2 ? skills() : of == 3 ? trials() : sheets();
            Check.due("seed " + seed + ", call " + calls + ": " + call, both[0], both[1]);
        }
    }

    private int[] both(int got, int want) {
        return new int[] {got, want};
    }

    private void told(String name, Object... args) {
        StringBuilder text = new StringBuilder(name).append('(');
        for (int i = 0; i < args.length; i++) {
            text.append(i == 0 ? "" : ", ").append(args[i]);
        }
        call = text.append(')').toString();
    }

    /** Mostly from least to most, at times an edge, one beyond it, or anything. */
    private int near(int least, int most) {
        int luck = random.nextInt(100);
        if (luck < 88) {
            return least + random.nextInt(most - least + 1);
        }
        int[] odd = {least, most, least, most, least - 1, most + 1, random.nextInt(), Integer.MAX_VALUE, Integer.MIN_VALUE};
        return odd[random.nextInt(odd.length)];
    }

    private void newTask() {
        int most = random.nextInt(3) == 0 ? 99 : 999;
        lastMuch = near(0, most);
        if (random.nextInt(3) == 0) {
            lastMuch = lastMuch / 10 * 10;
        }
        lastLess = lastMuch >= 0 ? near(0, Math.min(most, lastMuch)) : 0;
    }

    private int someAnswer() {
        int luck = random.nextInt(10);
        if (luck == 0 || !(lastLess >= 0 && lastMuch >= lastLess && lastMuch <= 999)) {
            return near(0, 999);
        }
        return luck < 8 ? plain.work(lastMuch, lastLess, random.nextInt(256)) : (lastMuch + 500) % 1000;
    }

    private int[] works() {
        if (random.nextInt(4) != 0) {
            newTask();
        }
        int set = near(0, 255);
        int a = someAnswer();
        int n = random.nextInt(30) == 0 ? near(1, 200) : near(1, 14);
        switch (random.nextInt(7)) {
            case 0:
                told("work", lastMuch, lastLess, set);
                return both(desk.work(lastMuch, lastLess, set), plain.work(lastMuch, lastLess, set));
            case 1:
                int column = near(0, 2);
                told("row", lastMuch, lastLess, set, column);
                return both(desk.row(lastMuch, lastLess, set, column), plain.row(lastMuch, lastLess, set, column));
            case 2:
                told("could", lastMuch, lastLess, a);
                return both(desk.could(lastMuch, lastLess, a), plain.could(lastMuch, lastLess, a));
            case 3:
                int i = near(0, 40);
                told("least", lastMuch, lastLess, a, i);
                return both(desk.least(lastMuch, lastLess, a, i), plain.least(lastMuch, lastLess, a, i));
            case 4:
                int b = near(0, 255);
                told("parts", set, b, n);
                return both(desk.parts(set, b, n), plain.parts(set, b, n));
            case 5:
                return sheets();
            default:
                int s = near(0, 3);
                int lane = near(0, 2);
                int from = near(0, 8);
                int k = near(1, 6);
                told("probe", n, s, lane, from, k);
                return both(desk.probe(n, s, lane, from, k), plain.probe(n, s, lane, from, k));
        }
    }

    private int[] learners() {
        int who = near(0, 3);
        if (random.nextInt(3) != 0) {
            newTask();
        }
        switch (random.nextInt(13)) {
            case 0:
                told("learner");
                return random.nextInt(4) == 0 ? both(desk.learner(), plain.learner()) : both(0, 0);
            case 1:
            case 2:
            case 3:
                int a = someAnswer();
                told("answer", who, lastMuch, lastLess, a);
                return both(desk.answer(who, lastMuch, lastLess, a), plain.answer(who, lastMuch, lastLess, a));
            case 4:
                int s = near(0, 3);
                int lane = near(0, 2);
                int i = near(0, 4);
                int n = random.nextInt(3) == 0 ? near(0, 13) : near(0, 3);
                told("answers", who, s, lane, i, n);
                return both(desk.answers(who, s, lane, i, n), plain.answers(who, s, lane, i, n));
            case 5:
                int number = near(0, 20);
                boolean is = random.nextBoolean();
                told("aside", who, number, is);
                return both(desk.aside(who, number, is), plain.aside(who, number, is));
            case 6:
                int what = near(0, 4);
                int v = near(0, random.nextInt(4) == 0 ? 999 : 60);
                told("set", what, v);
                return both(desk.set(what, v), plain.set(what, v));
            case 7:
                int set = near(0, 255);
                told("points", who, set);
                return both(desk.points(who, set), plain.points(who, set));
            case 8:
                told("guess", who);
                return both(desk.guess(who), plain.guess(who));
            case 9:
                told("lead", who);
                return both(desk.lead(who), plain.lead(who));
            case 10:
                int kind = near(0, 3);
                told("count", who, kind);
                return both(desk.count(who, kind), plain.count(who, kind));
            case 11:
                int of = near(0, 3);
                told("strange", of);
                return both(desk.strange(of), plain.strange(of));
            default:
                int many = near(0, 2);
                int written = random.nextInt(3) == 0 ? near(0, 99) : many == 1 ? (lastMuch - lastLess) % 10
                    : many == 2 ? (lastMuch - lastLess) % 100 : 0;
                told("hint", lastMuch, lastLess, written, many);
                return both(desk.hint(lastMuch, lastLess, written, many), plain.hint(lastMuch, lastLess, written, many));
        }
    }

    private void typeOnBoth(String text) {
        for (int from = 0; from < text.length(); from += 8) {
            String part = text.substring(from, Math.min(text.length(), from + 8));
            long w = 0;
            for (char c : part.toCharArray()) {
                w = w << 8 | c;
            }
            calls++;
            told("type", w, part.length());
            Check.due(call, desk.type(w, part.length()), plain.type(w, part.length()));
        }
    }

    private String someText() {
        String text = TEXTS[random.nextInt(TEXTS.length)];
        if (random.nextInt(3) == 0 && !text.isEmpty()) {
            String signs = "abchi=/:;,0129 x";
            int at = random.nextInt(text.length());
            String put = "" + signs.charAt(random.nextInt(signs.length()));
            text = text.substring(0, at) + put + text.substring(at + random.nextInt(2));
        }
        return text;
    }

    private int[] skills() {
        int who = near(0, 3);
        int skill = near(0, 7);
        day = Math.min(9999, day + (random.nextInt(3) == 0 ? random.nextInt(12) : 0));
        int on = random.nextInt(6) == 0 ? near(0, 9999) : day + random.nextInt(9);
        switch (random.nextInt(12)) {
            case 0:
                told("learner");
                return random.nextInt(4) == 0 ? both(desk.learner(), plain.learner()) : both(0, 0);
            case 1:
                long w = random.nextLong() >>> 1 & 0x7f7f7f7f7f7f7f7fL | 0x2020202020202020L;
                int n = near(1, 8);
                told("type", w, n);
                return random.nextInt(4) == 0 ? both(desk.type(w, n), plain.type(w, n)) : both(0, 0);
            case 2:
                if (random.nextInt(4) != 0) {
                    return both(0, 0);
                }
                String text = someText();
                typeOnBoth(text);
                told("skills", text);
                return both(desk.skills(), plain.skills());
            case 3:
                int what = near(0, 2);
                told("skill", skill, what);
                return both(desk.skill(skill, what), plain.skill(skill, what));
            case 4:
            case 5:
            case 6:
                boolean right = random.nextInt(3) != 0;
                int when = random.nextInt(20) == 0 ? on : day;
                told("exercise", who, skill, when, right);
                return both(desk.exercise(who, skill, when, right), plain.exercise(who, skill, when, right));
            case 7:
            case 8:
                told("odds", who, skill, on);
                return both(desk.odds(who, skill, on), plain.odds(who, skill, on));
            case 9:
                int v = near(1, 1000);
                told("again", who, skill, v);
                return both(desk.again(who, skill, v), plain.again(who, skill, v));
            default:
                int hours = random.nextInt(3) == 0 ? near(0, 160) : near(0, 15);
                int of = near(0, 2);
                told("way", who, on, hours, of);
                return both(desk.way(who, on, hours, of), plain.way(who, on, hours, of));
        }
    }

    private int[] trials() {
        switch (random.nextInt(16)) {
            case 0:
                if (random.nextInt(2) == 0) {
                    told("ends");
                    return both(desk.ends(), plain.ends());
                }
                int v = near(1, 500);
                told("set", 4, v);
                return both(desk.set(4, v), plain.set(4, v));
            case 1:
            case 2:
            case 3:
                int what = near(0, 1);
                told("by", what);
                return both(desk.by(what), plain.by(what));
            case 4:
            case 5:
                told("share");
                return both(desk.share(), plain.share());
            case 6:
            case 7:
                told("verdict");
                return both(desk.verdict(), plain.verdict());
            default:
                int way = near(0, 1);
                int outcome = random.nextInt(2) == 0 ? near(-999, 999) : near(-3, 3);
                told("deal", way, outcome);
                return both(desk.deal(way, outcome), plain.deal(way, outcome));
        }
    }

    private int[] sheets() {
        int s = near(0, 3);
        int lane = random.nextInt(4) == 0 ? near(0, 2) : 2;
        switch (random.nextInt(12)) {
            case 0:
                int n = random.nextInt(2) == 0 ? near(0, 40) : near(6, 12);
                told("sheet", s, lane, n);
                return both(desk.sheet(s, lane, n), plain.sheet(s, lane, n));
            case 1:
                told("drop", s);
                return random.nextInt(4) == 0 ? both(desk.drop(s), plain.drop(s)) : both(0, 0);
            case 2:
                int to = near(0, 3);
                int i = near(0, 6);
                int j = near(0, 6);
                int many = near(0, 8);
                told("copy", s, i, to, j, many);
                return both(desk.copy(s, i, to, j, many), plain.copy(s, i, to, j, many));
            default:
                int at = near(0, 12);
                int v = random.nextInt(5) == 0 ? random.nextInt() : near(0, 255);
                told("item", s, lane, at, v);
                return both(desk.item(s, lane, at, v), plain.item(s, lane, at, v));
        }
    }
}
