import java.util.ArrayList;
import java.util.HashSet;
import java.util.List;
import java.util.Set;
import java.util.TreeMap;

/**
 * The document once more, written another way and with no eye on speed: nothing is kept but what
 * the calls told, sheets are real arrays, days are tried one by one. RandomRunsTest compares it.
 */
final class PlainDesk {
    static final int BAD = -1, NOT = -2, FULL = -3, NONE = -4, OPEN = -5, NULL = -11, CAST = -12, INDEX = -13, SIZE = -14;

    private static final class Given {
        int much, less, answer;
        boolean aside;
    }

    private static final class Done {
        int day;
        boolean right;
    }

    private static final class Pupil {
        final List<Given> given = new ArrayList<>();
        final TreeMap<Integer, List<Done>> done = new TreeMap<>();
    }

    private static final class Clause {
        int hours, gain, leans;
    }

    private static final class TextFault extends Exception {
        private static final long serialVersionUID = 1;

        final int place;

        TextFault(int place) {
            this.place = place;
        }
    }

    private final List<Pupil> pupils = new ArrayList<>();
    private final int[] marks = {10, 20, 5, 10, 50};
    private String hinted = "";
    private String tape = "";
    private TreeMap<Integer, Clause> clauses = new TreeMap<>();
    private final List<int[]> dealt = new ArrayList<>();
    private final Object[] sheets = new Object[4];

    // ---- 1 work

    /** Three digits and three deeds. */
    private static int[] worked(int much, int less, int set) {
        int[] up = {much % 10, much / 10 % 10, much / 100};
        int[] low = {less % 10, less / 10 % 10, less / 100};
        int digits = String.valueOf(less).length();
        boolean[] f = new boolean[8];
        for (int i = 0; i < 8; i++) {
            f[i] = (set & 1 << i) != 0;
        }
        int[] out = new int[6];
        for (int c = 0; c < 3; c++) {
            if (f[6] && c >= digits) {
                out[c] = 0;
                out[3 + c] = 0;
                continue;
            }
            if (f[5] && low[c] == 0) {
                out[c] = 0;
                out[3 + c] = 1;
                continue;
            }
            if (f[2] && up[c] == 0 && low[c] > up[c]) {
                out[c] = low[c];
                out[3 + c] = 2;
                continue;
            }
            if (up[c] >= low[c]) {
                out[c] = up[c] - low[c];
                out[3 + c] = 3;
                continue;
            }
            if (f[0]) {
                out[c] = low[c] - up[c];
                out[3 + c] = 4;
                continue;
            }
            out[c] = 10 + up[c] - low[c];
            out[3 + c] = 5;
            if (!f[1]) {
                pay(up, c + 1, f);
            }
        }
        return out;
    }

    private static void pay(int[] up, int c, boolean[] f) {
        if (c > 2) {
            return;
        }
        if (up[c] > 0) {
            if (f[7]) {
                up[c] = up[c] == 9 ? 9 : up[c] + 1;
            } else {
                up[c]--;
            }
        } else if (f[3]) {
            up[c] = 9;
        } else {
            up[c] = f[4] ? 0 : 9;
            pay(up, c + 1, f);
        }
    }

    private static int told(int much, int less, int set) {
        int[] w = worked(much, less, set);
        return w[0] + 10 * w[1] + 100 * w[2];
    }

    private static List<Integer> known() {
        List<Integer> all = new ArrayList<>();
        for (int faults = 0; faults <= 3; faults++) {
            for (int set = 0; set < 256; set++) {
                if (Integer.bitCount(set) == faults) {
                    all.add(set);
                }
            }
        }
        return all;
    }

    private static boolean task(int much, int less) {
        return less >= 0 && less <= 999 && much >= less && much <= 999;
    }

    private static boolean bits(int set) {
        return set >= 0 && set <= 255;
    }

    private static boolean number(int v) {
        return v >= 0 && v <= 999;
    }

    int work(int much, int less, int set) {
        return task(much, less) && bits(set) ? told(much, less, set) : BAD;
    }

    int row(int much, int less, int set, int column) {
        if (!task(much, less) || !bits(set) || column < 0 || column > 2) {
            return BAD;
        }
        int[] w = worked(much, less, set);
        return 10 * w[3 + column] + w[column];
    }

    private static List<Integer> explain(int much, int less, int answer) {
        List<Integer> sets = new ArrayList<>();
        for (int set : known()) {
            if (told(much, less, set) == answer) {
                sets.add(set);
            }
        }
        return sets;
    }

    int could(int much, int less, int answer) {
        return task(much, less) && number(answer) ? explain(much, less, answer).size() : BAD;
    }

    int least(int much, int less, int answer, int i) {
        if (!task(much, less) || !number(answer) || i < 0) {
            return BAD;
        }
        List<Integer> sets = explain(much, less, answer);
        return i < sets.size() ? sets.get(i) : NONE;
    }

    int parts(int a, int b, int n) {
        if (!bits(a) || !bits(b) || n < 1 || n > 200) {
            return BAD;
        }
        for (int much = 0; much < n; much++) {
            for (int less = 0; less <= much; less++) {
                if (told(much, less, a) != told(much, less, b)) {
                    return 1000 * much + less;
                }
            }
        }
        return NONE;
    }

    private int[] taken(int sheet, int lane, int i, int n) {
        // A row that is missing is found ahead of one of another lane.
        Object held = sheets[sheet];
        held.hashCode();
        int[] all;
        if (lane == 0) {
            byte[] r = (byte[]) held;
            all = new int[r.length];
            for (int j = 0; j < r.length; j++) {
                all[j] = r[j];
            }
        } else if (lane == 1) {
            short[] r = (short[]) held;
            all = new int[r.length];
            for (int j = 0; j < r.length; j++) {
                all[j] = r[j];
            }
        } else {
            all = ((int[]) held).clone();
        }
        int[] some = new int[n];
        System.arraycopy(all, i, some, 0, n);
        return some;
    }

    int probe(int n, int sheet, int lane, int i, int k) {
        if (n < 1 || n > 200 || sheet < 0 || sheet > 3 || lane < 0 || lane > 2 || k < 1 || k > 6) {
            return BAD;
        }
        try {
            int[] sets = taken(sheet, lane, i, k);
            for (int set : sets) {
                if (!bits(set)) {
                    return NOT;
                }
            }
            int best = -1;
            int most = -1;
            for (int much = n - 1; much >= 0; much--) {
                for (int less = much; less >= 0; less--) {
                    Set<Integer> different = new HashSet<>();
                    for (int set : sets) {
                        different.add(told(much, less, set));
                    }
                    if (different.size() >= most) {
                        most = different.size();
                        best = 1000 * much + less;
                    }
                }
            }
            return best;
        } catch (NullPointerException e) {
            return NULL;
        } catch (ClassCastException e) {
            return CAST;
        } catch (IndexOutOfBoundsException e) {
            return INDEX;
        }
    }

    // ---- 2 learners

    private Pupil pupil(int n) {
        return n >= 0 && n < pupils.size() ? pupils.get(n) : null;
    }

    int learner() {
        if (pupils.size() == 12) {
            return FULL;
        }
        pupils.add(new Pupil());
        return pupils.size() - 1;
    }

    int answer(int learner, int much, int less, int answer) {
        Pupil p = pupil(learner);
        if (p == null || !task(much, less) || !number(answer)) {
            return BAD;
        }
        if (p.given.size() == 40) {
            return FULL;
        }
        Given g = new Given();
        g.much = much;
        g.less = less;
        g.answer = answer;
        p.given.add(g);
        return p.given.size() - 1;
    }

    int answers(int learner, int sheet, int lane, int i, int n) {
        Pupil p = pupil(learner);
        if (p == null || sheet < 0 || sheet > 3 || lane < 0 || lane > 2 || n < 0 || n > 13) {
            return BAD;
        }
        int[] all;
        try {
            all = taken(sheet, lane, i, 3 * n);
        } catch (NullPointerException e) {
            return NULL;
        } catch (ClassCastException e) {
            return CAST;
        } catch (IndexOutOfBoundsException e) {
            return INDEX;
        }
        for (int j = 0; j < n; j++) {
            if (!task(all[3 * j], all[3 * j + 1]) || !number(all[3 * j + 2])) {
                return NOT;
            }
        }
        if (p.given.size() + n > 40) {
            return FULL;
        }
        for (int j = 0; j < n; j++) {
            answer(learner, all[3 * j], all[3 * j + 1], all[3 * j + 2]);
        }
        return p.given.size();
    }

    int aside(int learner, int answer, boolean is) {
        Pupil p = pupil(learner);
        if (p == null || answer < 0 || answer >= p.given.size()) {
            return BAD;
        }
        Given g = p.given.get(answer);
        boolean was = g.aside;
        g.aside = is;
        return was ? 1 : 0;
    }

    int set(int what, int v) {
        if (what < 0 || what > 4) {
            return BAD;
        }
        int least = what == 4 ? 1 : 0;
        int most = what < 3 ? 99 : what == 3 ? 999 : 500;
        if (v < least || v > most) {
            return BAD;
        }
        int was = marks[what];
        marks[what] = v;
        return was;
    }

    private int pointsOf(Pupil p, int set) {
        int points = 0;
        for (Given g : p.given) {
            if (!g.aside) {
                points += told(g.much, g.less, set) == g.answer ? marks[0] : -marks[1];
            }
        }
        return points - Integer.bitCount(set) * marks[2];
    }

    int points(int learner, int set) {
        Pupil p = pupil(learner);
        return p == null || !known().contains(set) ? -100001 : pointsOf(p, set);
    }

    /** The best SET and its LEAD. */
    private int[] best(Pupil p) {
        List<Integer> all = new ArrayList<>(known());
        List<Integer> points = new ArrayList<>();
        for (int set : all) {
            points.add(pointsOf(p, set));
        }
        int at = 0;
        for (int i = 0; i < all.size(); i++) {
            if (points.get(i) > points.get(at)) {
                at = i;
            }
        }
        int set = all.get(at);
        int most = points.remove(at);
        int next = points.stream().mapToInt(x -> x).max().getAsInt();
        return new int[] {set, most - next};
    }

    int guess(int learner) {
        Pupil p = pupil(learner);
        if (p == null) {
            return BAD;
        }
        int[] best = best(p);
        return best[1] >= marks[3] ? best[0] : OPEN;
    }

    int lead(int learner) {
        Pupil p = pupil(learner);
        return p == null ? BAD : best(p)[1];
    }

    int count(int learner, int what) {
        Pupil p = pupil(learner);
        if (p == null || what < 0 || what > 3) {
            return BAD;
        }
        int n = 0;
        for (Given g : p.given) {
            boolean counts = what == 0
                || what == 1 && g.aside
                || what == 2 && !g.aside && g.answer == g.much - g.less
                || what == 3 && !g.aside && explain(g.much, g.less, g.answer).isEmpty();
            n += counts ? 1 : 0;
        }
        return n;
    }

    int strange(int what) {
        if (what < 0 || what > 3) {
            return BAD;
        }
        TreeMap<Long, Integer> many = new TreeMap<>();
        for (Pupil p : pupils) {
            for (Given g : p.given) {
                if (!g.aside && explain(g.much, g.less, g.answer).isEmpty()) {
                    many.merge(g.much * 1000000L + g.less * 1000L + g.answer, 1, Integer::sum);
                }
            }
        }
        long best = -1;
        for (long key : many.keySet()) {
            if (best < 0 || many.get(key) > many.get(best)) {
                best = key;
            }
        }
        if (best < 0) {
            return NONE;
        }
        long[] told = {many.get(best), best / 1000000, best / 1000 % 1000, best % 1000};
        return (int) told[what];
    }

    int hint(int much, int less, int written, int many) {
        if (!task(much, less) || many < 0 || many > 2 || written < 0) {
            return BAD;
        }
        String w = written == 0 ? "" : String.valueOf(written);
        if (w.length() > many) {
            return BAD;
        }
        String before = hinted;
        hinted = much + "-" + less;
        String right = String.format("%03d", much - less);
        String padded = "000" + w;
        padded = padded.substring(padded.length() - many);
        if (!right.endsWith(padded)) {
            return NOT;
        }
        return before.equals(hinted) ? right.charAt(2 - many) - '0' : OPEN;
    }

    // ---- 3 skills

    int type(long w, int n) {
        if (n < 1 || n > 8) {
            return BAD;
        }
        String more = "";
        for (int j = 0; j < n; j++) {
            int b = (int) (w & 255);
            if (b < 32 || b > 126) {
                return BAD;
            }
            more = (char) b + more;
            w >>= 8;
        }
        if (tape.length() + n > 100) {
            return FULL;
        }
        tape += more;
        return tape.length();
    }

    /** Signs and numbers of the TEXT, each with its place; the end is a sign too. */
    private static List<String[]> tokens(String text) {
        List<String[]> all = new ArrayList<>();
        int at = 0;
        while (at < text.length()) {
            int from = at;
            if (text.charAt(at) == ' ') {
                at++;
                continue;
            }
            while (at < text.length() && Character.isDigit(text.charAt(at))) {
                at++;
            }
            if (at == from) {
                at++;
            }
            all.add(new String[] {text.substring(from, at), "" + from});
        }
        all.add(new String[] {"", "" + text.length()});
        return all;
    }

    private static TreeMap<Integer, Clause> read(String text) throws TextFault {
        TreeMap<Integer, Clause> found = new TreeMap<>();
        List<String[]> all = tokens(text);
        int t = 0;
        while (true) {
            need(all, t, all.get(t)[0].matches("[a-h]") && !found.containsKey(all.get(t)[0].charAt(0) - 'a'));
            int skill = all.get(t)[0].charAt(0) - 'a';
            need(all, t + 1, all.get(t + 1)[0].equals("="));
            need(all, t + 2, all.get(t + 2)[0].matches("0*([1-9]|1[0-9]|20)"));
            need(all, t + 3, all.get(t + 3)[0].equals("/"));
            need(all, t + 4, all.get(t + 4)[0].matches("0*[0-9]{1,2}"));
            Clause c = new Clause();
            c.hours = new java.math.BigInteger(all.get(t + 2)[0]).intValue();
            c.gain = new java.math.BigInteger(all.get(t + 4)[0]).intValue();
            t += 5;
            if (all.get(t)[0].equals(":")) {
                do {
                    t++;
                    need(all, t, all.get(t)[0].matches("[a-h]") && found.containsKey(all.get(t)[0].charAt(0) - 'a'));
                    c.leans |= 1 << all.get(t)[0].charAt(0) - 'a';
                    t++;
                } while (all.get(t)[0].equals(","));
            }
            found.put(skill, c);
            if (all.get(t)[0].isEmpty()) {
                return found;
            }
            need(all, t, all.get(t)[0].equals(";") && found.size() < 8);
            t++;
        }
    }

    private static void need(List<String[]> all, int t, boolean holds) throws TextFault {
        if (!holds) {
            throw new TextFault(Integer.parseInt(all.get(t)[1]));
        }
    }

    int skills() {
        String text = tape;
        tape = "";
        try {
            clauses = read(text);
        } catch (TextFault e) {
            return -20 - e.place;
        }
        for (Pupil p : pupils) {
            p.done.clear();
        }
        return clauses.size();
    }

    int skill(int skill, int what) {
        Clause c = clauses.get(skill);
        if (c == null || what < 0 || what > 2) {
            return BAD;
        }
        return what == 0 ? c.hours : what == 1 ? c.gain : c.leans;
    }

    private static int half(List<Done> all) {
        int half = 8;
        for (Done d : all) {
            half = d.right ? Math.min(512, half * 2) : Math.max(1, half / 2);
        }
        return half;
    }

    private static List<Done> done(Pupil p, int skill) {
        return p.done.getOrDefault(skill, new ArrayList<>());
    }

    private static int latest(Pupil p, int skill) {
        List<Done> all = done(p, skill);
        return all.isEmpty() ? -1 : all.get(all.size() - 1).day;
    }

    private static boolean isKnown(Pupil p, int skill) {
        return done(p, skill).stream().anyMatch(d -> d.right);
    }

    private static int oddsOf(Pupil p, int skill, int day) {
        int half = half(done(p, skill));
        return isKnown(p, skill) ? 1000 * half / (half + day - latest(p, skill)) : 0;
    }

    int exercise(int learner, int skill, int day, boolean right) {
        Pupil p = pupil(learner);
        if (p == null || !clauses.containsKey(skill) || day < 0 || day > 9999) {
            return BAD;
        }
        if (day < latest(p, skill)) {
            return NOT;
        }
        Done d = new Done();
        d.day = day;
        d.right = right;
        p.done.computeIfAbsent(skill, s -> new ArrayList<>()).add(d);
        return half(done(p, skill));
    }

    int odds(int learner, int skill, int day) {
        Pupil p = pupil(learner);
        if (p == null || !clauses.containsKey(skill) || day < 0 || day > 9999) {
            return BAD;
        }
        return day < latest(p, skill) ? NOT : oddsOf(p, skill, day);
    }

    int again(int learner, int skill, int v) {
        Pupil p = pupil(learner);
        if (p == null || !clauses.containsKey(skill) || v < 1 || v > 1000) {
            return BAD;
        }
        if (!isKnown(p, skill)) {
            return NONE;
        }
        int half = half(done(p, skill));
        int days = 0;
        while (1000 * half / (half + days) >= v) {
            days++;
        }
        return latest(p, skill) + days;
    }

    int way(int learner, int day, int hours, int what) {
        Pupil p = pupil(learner);
        if (p == null || day < 0 || day > 9999 || hours < 0 || hours > 160 || what < 0 || what > 2) {
            return BAD;
        }
        int held = 0;
        for (int s = 0; s < 8; s++) {
            if (day < latest(p, s)) {
                return NOT;
            }
            held |= oddsOf(p, s, day) >= 500 ? 1 << s : 0;
        }
        int[] best = null;
        for (int w = 255; w >= 0; w--) {
            int[] t = wayOf(w, held);
            if (t == null || t[2] > hours) {
                continue;
            }
            if (best == null || t[1] > best[1] || t[1] == best[1] && t[2] <= best[2]) {
                best = t;
            }
        }
        return best[what];
    }

    private int[] wayOf(int w, int held) {
        int[] t = {w, 0, 0};
        for (int s = 0; s < 8; s++) {
            if ((w & 1 << s) == 0) {
                continue;
            }
            Clause c = clauses.get(s);
            if (c == null || (held & 1 << s) != 0 || (c.leans & (w | held)) != c.leans) {
                return null;
            }
            t[1] += c.gain;
            t[2] += c.hours;
        }
        return t;
    }

    // ---- 4 trials

    int deal(int way, int outcome) {
        if (way < 0 || way > 1 || outcome < -999 || outcome > 999) {
            return BAD;
        }
        if (dealt.size() == 12) {
            return FULL;
        }
        dealt.add(new int[] {way, outcome});
        return dealt.size();
    }

    int ends() {
        int n = dealt.size();
        dealt.clear();
        return n;
    }

    /** BY of a dealing as above and below (never 0), or null. */
    private static long[] fraction(List<Integer> zeros, List<Integer> ones) {
        if (zeros.isEmpty() || ones.isEmpty()) {
            return null;
        }
        long s0 = zeros.stream().mapToLong(x -> x).sum();
        long s1 = ones.stream().mapToLong(x -> x).sum();
        return new long[] {s1 * zeros.size() - s0 * ones.size(), (long) zeros.size() * ones.size()};
    }

    private long[] now() {
        List<Integer> zeros = new ArrayList<>();
        List<Integer> ones = new ArrayList<>();
        for (int[] d : dealt) {
            (d[0] == 0 ? zeros : ones).add(d[1]);
        }
        return fraction(zeros, ones);
    }

    int by(int what) {
        if (what < 0 || what > 1) {
            return -100001;
        }
        long[] f = now();
        if (f == null) {
            return -100002;
        }
        java.math.BigInteger gcd = java.math.BigInteger.valueOf(f[0]).gcd(java.math.BigInteger.valueOf(f[1]));
        return (int) (f[what] / gcd.longValue());
    }

    /** Counts all dealings, and those that are as good, by dealing one outcome after another. */
    private void count(int i, int left, List<Integer> zeros, List<Integer> ones, long[] now, int[] out) {
        if (i == dealt.size()) {
            if (left == 0) {
                long[] f = fraction(zeros, ones);
                out[0]++;
                out[1] += f[0] * now[1] >= now[0] * f[1] ? 1 : 0;
            }
            return;
        }
        int v = dealt.get(i)[1];
        zeros.add(v);
        count(i + 1, left, zeros, ones, now, out);
        zeros.remove(zeros.size() - 1);
        ones.add(v);
        count(i + 1, left - 1, zeros, ones, now, out);
        ones.remove(ones.size() - 1);
    }

    int share() {
        long[] now = now();
        if (now == null) {
            return NOT;
        }
        int ones = (int) dealt.stream().filter(d -> d[0] == 1).count();
        int[] out = new int[2];
        count(0, ones, new ArrayList<>(), new ArrayList<>(), now, out);
        return 1000 * out[1] / out[0];
    }

    int verdict() {
        int share = share();
        if (share < 0) {
            return share;
        }
        return share < marks[4] ? 1 : share >= 500 ? 0 : OPEN;
    }

    // ---- 5 sheets

    int sheet(int sheet, int lane, int n) {
        if (sheet < 0 || sheet > 3 || lane < 0 || lane > 2 || n > 40) {
            return BAD;
        }
        try {
            sheets[sheet] = lane == 0 ? new byte[n] : lane == 1 ? (Object) new short[n] : new int[n];
        } catch (NegativeArraySizeException e) {
            return SIZE;
        }
        return n;
    }

    int drop(int sheet) {
        if (sheet < 0 || sheet > 3) {
            return BAD;
        }
        if (sheets[sheet] == null) {
            return NULL;
        }
        int n = java.lang.reflect.Array.getLength(sheets[sheet]);
        sheets[sheet] = null;
        return n;
    }

    int item(int sheet, int lane, int i, int v) {
        if (sheet < 0 || sheet > 3 || lane < 0 || lane > 2) {
            return BAD;
        }
        Object held = sheets[sheet];
        try {
            held.hashCode();
            if (lane == 0) {
                ((byte[]) held)[i] = (byte) v;
            } else if (lane == 1) {
                ((short[]) held)[i] = (short) v;
            } else {
                ((int[]) held)[i] = v;
            }
            return 1;
        } catch (NullPointerException e) {
            return NULL;
        } catch (ClassCastException e) {
            return CAST;
        } catch (IndexOutOfBoundsException e) {
            return INDEX;
        }
    }

    int copy(int from, int i, int to, int j, int n) {
        if (from < 0 || from > 3 || to < 0 || to > 3) {
            return BAD;
        }
        try {
            System.arraycopy(sheets[from], i, sheets[to], j, n);
            return n;
        } catch (NullPointerException e) {
            return NULL;
        } catch (ArrayStoreException e) {
            return CAST;
        } catch (IndexOutOfBoundsException e) {
            return INDEX;
        }
    }
}
