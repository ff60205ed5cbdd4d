/**
 * Lessons that fit: learners who take one number from another with faults of their own, guesses at
 * these faults, hints, skills that lean on others, forgetting, and trials of two ways of teaching.
 *
 * <p>What a call refuses is told by its answer alone: no call throws.
 */
public final class LessonDesk {
    public static final int BAD = -1, NOT = -2, FULL = -3, NONE = -4, OPEN = -5, NULL = -11, CAST = -12, INDEX = -13, SIZE = -14;

    private static final int COLUMNS = 3;
    private static final int MOST_NUMBER = 999;
    private static final int MOST_SET = 255;
    private static final int MOST_SEARCHED = 200;
    private static final int MOST_PROBED = 6;
    private static final int MOST_LEARNERS = 12;
    private static final int MOST_ANSWERS = 40;
    private static final int MOST_ANSWERS_AT_ONCE = 13;
    private static final int NUMBERS_OF_AN_ANSWER = 3;
    private static final int SHEETS = 4;
    private static final int MOST_LANE = 2;
    private static final int MOST_ITEMS = 40;
    private static final int SKILLS = 8;
    private static final int MOST_BYTES = 100;
    private static final int MOST_DAY = 9999;
    private static final int MOST_HOURS_OF_A_WAY = 160;
    private static final int HELD_FROM = 500;
    private static final int MOST_DEALT = 12;
    private static final int MOST_OUTCOME = 999;
    private static final int LIKE_FROM = 500;
    private static final int FIRST_FAULT_OF_A_TEXT = -20;

    /** Answers that may be below 0 themselves put what they refuse this much lower. */
    private static final int FAR_BELOW = 100000;

    private static final int GAIN = 0, LOSS = 1, COST = 2, SURE = 3, LEVEL = 4;
    private static final int[] LEAST_MARKS = {0, 0, 0, 0, 1};
    private static final int[] MOST_MARKS = {99, 99, 99, 999, 500};

    private static final int[] TENS = {1, 10, 100};

    /** The KNOWN SETS in their ORDER: fewer FAULTS first, then the lesser bits. */
    private static final int[] ORDER = {
        0,
        1, 2, 4, 8, 16, 32, 64, 128,
        3, 5, 6, 9, 10, 12, 17, 18, 20, 24, 33, 34, 36, 40, 48,
        65, 66, 68, 72, 80, 96, 129, 130, 132, 136, 144, 160, 192,
        7, 11, 13, 14, 19, 21, 22, 25, 26, 28, 35, 37, 38, 41, 42, 44, 49, 50, 52, 56,
        67, 69, 70, 73, 74, 76, 81, 82, 84, 88, 97, 98, 100, 104, 112,
        131, 133, 134, 137, 138, 140, 145, 146, 148, 152, 161, 162, 164, 168, 176,
        193, 194, 196, 200, 208, 224
    };

    private final Paper paper = new Paper();
    private final int[] probed = new int[MOST_PROBED];
    private final int[] given = new int[MOST_PROBED];
    private final Learner[] learners = new Learner[MOST_LEARNERS];
    private int learnersMany = 0;
    private final int[] marks = {10, 20, 5, 10, 50};
    private final Oddities oddities = new Oddities();
    private int hintedTask = -1;
    private final Tape tape = new Tape();
    private Course course = new Course();
    private Course spare = new Course();
    private final Trial trial = new Trial();
    private final Sheet[] sheets = {new Sheet(), new Sheet(), new Sheet(), new Sheet()};

    public LessonDesk() {
    }

    // ---- 1 work

    public int work(int much, int less, int set) {
        if (!isTask(much, less) || !isSet(set)) {
            return BAD;
        }
        return paper.fill(much, less, set);
    }

    public int row(int much, int less, int set, int column) {
        if (!isTask(much, less) || !isSet(set) || !within(column, 0, COLUMNS - 1)) {
            return BAD;
        }
        paper.fill(much, less, set);
        return 10 * paper.done[column] + paper.digits[column];
    }

    public int could(int much, int less, int answer) {
        if (!isTask(much, less) || !isNumber(answer)) {
            return BAD;
        }
        int many = 0;
        for (int place = 0; place < ORDER.length; place++) {
            if (paper.fill(much, less, ORDER[place]) == answer) {
                many++;
            }
        }
        return many;
    }

    public int least(int much, int less, int answer, int i) {
        if (!isTask(much, less) || !isNumber(answer) || i < 0) {
            return BAD;
        }
        int many = 0;
        for (int place = 0; place < ORDER.length; place++) {
            if (paper.fill(much, less, ORDER[place]) == answer) {
                if (many == i) {
                    return ORDER[place];
                }
                many++;
            }
        }
        return NONE;
    }

    public int parts(int a, int b, int n) {
        if (!isSet(a) || !isSet(b) || !within(n, 1, MOST_SEARCHED)) {
            return BAD;
        }
        for (int much = 0; much < n; much++) {
            for (int less = 0; less <= much; less++) {
                if (paper.fill(much, less, a) != paper.fill(much, less, b)) {
                    return taskNumber(much, less);
                }
            }
        }
        return NONE;
    }

    public int probe(int n, int sheet, int lane, int i, int k) {
        Sheet from = sheetAt(sheet);
        if (!within(n, 1, MOST_SEARCHED) || from == null || !isLane(lane) || !within(k, 1, MOST_PROBED)) {
            return BAD;
        }
        int refused = from.refusal(lane, i, k);
        if (refused < 0) {
            return refused;
        }
        for (int j = 0; j < k; j++) {
            int told = from.at(i + j);
            if (!isSet(told)) {
                return NOT;
            }
            probed[j] = told;
        }
        return bestProbe(n, k);
    }

    /** The PROBE of the first k sets of probed, which are 1 to 6. */
    private int bestProbe(int n, int k) {
        int best = 0;
        int most = 0;
        for (int much = 0; much < n; much++) {
            for (int less = 0; less <= much; less++) {
                int different = differentAnswers(much, less, k);
                if (different > most) {
                    most = different;
                    best = taskNumber(much, less);
                }
                // No later TASK can part more than all of them.
                if (most >= k) {
                    return best;
                }
            }
        }
        return best;
    }

    private int differentAnswers(int much, int less, int k) {
        int different = 0;
        for (int j = 0; j < k; j++) {
            int answer = paper.fill(much, less, probed[j]);
            boolean isNew = true;
            for (int earlier = 0; earlier < different; earlier++) {
                if (given[earlier] == answer) {
                    isNew = false;
                }
            }
            if (isNew) {
                given[different] = answer;
                different++;
            }
        }
        return different;
    }

    // ---- 2 learners

    public int learner() {
        if (learnersMany >= MOST_LEARNERS) {
            return FULL;
        }
        learners[learnersMany] = new Learner();
        learnersMany++;
        return learnersMany - 1;
    }

    public int answer(int learner, int much, int less, int answer) {
        Learner who = learnerAt(learner);
        if (who == null || !isTask(much, less) || !isNumber(answer)) {
            return BAD;
        }
        return who.take(much, less, answer, paper);
    }

    public int answers(int learner, int sheet, int lane, int i, int n) {
        Learner who = learnerAt(learner);
        Sheet from = sheetAt(sheet);
        if (who == null || from == null || !isLane(lane) || !within(n, 0, MOST_ANSWERS_AT_ONCE)) {
            return BAD;
        }
        int refused = from.refusal(lane, i, NUMBERS_OF_AN_ANSWER * n);
        if (refused < 0) {
            return refused;
        }
        for (int j = 0; j < n; j++) {
            int at = i + NUMBERS_OF_AN_ANSWER * j;
            if (!isTask(from.at(at), from.at(at + 1)) || !isNumber(from.at(at + 2))) {
                return NOT;
            }
        }
        if (who.many + n > MOST_ANSWERS) {
            return FULL;
        }
        for (int j = 0; j < n; j++) {
            int at = i + NUMBERS_OF_AN_ANSWER * j;
            who.take(from.at(at), from.at(at + 1), from.at(at + 2), paper);
        }
        return who.many;
    }

    public int aside(int learner, int answer, boolean is) {
        Learner who = learnerAt(learner);
        if (who == null || !within(answer, 0, who.many - 1)) {
            return BAD;
        }
        return who.put(answer, is, paper) ? 1 : 0;
    }

    public int set(int what, int v) {
        if (!within(what, 0, marks.length - 1) || !within(v, LEAST_MARKS[what], MOST_MARKS[what])) {
            return BAD;
        }
        int before = marks[what];
        marks[what] = v;
        return before;
    }

    public int points(int learner, int set) {
        Learner who = learnerAt(learner);
        int place = placeInOrder(set);
        if (who == null || place < 0) {
            return BAD - FAR_BELOW;
        }
        return who.pointsAt(place, marks);
    }

    public int guess(int learner) {
        Learner who = learnerAt(learner);
        if (who == null) {
            return BAD;
        }
        int best = who.bestPlace(marks);
        return who.leadOf(best, marks) >= marks[SURE] ? ORDER[best] : OPEN;
    }

    public int lead(int learner) {
        Learner who = learnerAt(learner);
        if (who == null) {
            return BAD;
        }
        return who.leadOf(who.bestPlace(marks), marks);
    }

    public int count(int learner, int what) {
        Learner who = learnerAt(learner);
        if (who == null || !within(what, 0, 3)) {
            return BAD;
        }
        switch (what) {
            case 0:
                return who.many;
            case 1:
                return who.many - who.counted;
            case 2:
                return who.rightOnes();
            default:
                return who.strangeOnes();
        }
    }

    public int strange(int what) {
        if (!within(what, 0, 3)) {
            return BAD;
        }
        oddities.clear();
        for (int number = 0; number < learnersMany; number++) {
            Learner who = learners[number];
            if (who != null) {
                who.tellStrange(oddities);
            }
        }
        int most = oddities.mostGiven();
        if (most == 0) {
            return NONE;
        }
        switch (what) {
            case 0:
                return most;
            case 1:
                return muchOf(oddities.found);
            case 2:
                return lessOf(oddities.found);
            default:
                return answerOf(oddities.found);
        }
    }

    public int hint(int much, int less, int written, int many) {
        if (!isTask(much, less) || !within(many, 0, COLUMNS - 1) || !within(written, 0, TENS[many] - 1)) {
            return BAD;
        }
        int task = taskNumber(much, less);
        boolean askedAhead = hintedTask == task;
        hintedTask = task;
        int right = much - less;
        for (int column = 0; column < many; column++) {
            if (digitOf(written, column) != digitOf(right, column)) {
                return NOT;
            }
        }
        return askedAhead ? digitOf(right, many) : OPEN;
    }

    // ---- 3 skills

    public int type(long w, int n) {
        if (!within(n, 1, 8)) {
            return BAD;
        }
        for (int j = 0; j < n; j++) {
            if (!within(byteOf(w, j), 32, 126)) {
                return BAD;
            }
        }
        if (tape.length + n > MOST_BYTES) {
            return FULL;
        }
        for (int j = n - 1; j >= 0; j--) {
            tape.append(byteOf(w, j));
        }
        return tape.length;
    }

    public int skills() {
        int many = tape.readInto(spare);
        tape.length = 0;
        if (many < 0) {
            return many;
        }
        Course old = course;
        course = spare;
        spare = old;
        for (int number = 0; number < learnersMany; number++) {
            Learner who = learners[number];
            if (who != null) {
                who.memory.forget();
            }
        }
        return many;
    }

    public int skill(int skill, int what) {
        if (!course.has(skill) || !within(what, 0, 2)) {
            return BAD;
        }
        switch (what) {
            case 0:
                return course.hours[skill];
            case 1:
                return course.gain[skill];
            default:
                return course.leans[skill];
        }
    }

    public int exercise(int learner, int skill, int day, boolean right) {
        Learner who = learnerAt(learner);
        if (who == null || !course.has(skill) || !isDay(day)) {
            return BAD;
        }
        if (day < who.memory.latest[skill]) {
            return NOT;
        }
        return who.memory.practise(skill, day, right);
    }

    public int odds(int learner, int skill, int day) {
        Learner who = learnerAt(learner);
        if (who == null || !course.has(skill) || !isDay(day)) {
            return BAD;
        }
        if (day < who.memory.latest[skill]) {
            return NOT;
        }
        return who.memory.oddsOn(skill, day);
    }

    public int again(int learner, int skill, int v) {
        Learner who = learnerAt(learner);
        if (who == null || !course.has(skill) || !within(v, 1, 1000)) {
            return BAD;
        }
        if (!who.memory.known[skill]) {
            return NONE;
        }
        return who.memory.firstFaded(skill, v);
    }

    public int way(int learner, int day, int hours, int what) {
        Learner who = learnerAt(learner);
        if (who == null || !isDay(day) || !within(hours, 0, MOST_HOURS_OF_A_WAY) || !within(what, 0, 2)) {
            return BAD;
        }
        if (day < who.memory.latestOfAll()) {
            return NOT;
        }
        int bits = course.bestWay(who.memory.heldOn(day), hours);
        switch (what) {
            case 0:
                return bits;
            case 1:
                return total(course.gain, bits);
            default:
                return total(course.hours, bits);
        }
    }

    // ---- 4 trials

    public int deal(int way, int outcome) {
        if (!within(way, 0, 1) || !within(outcome, -MOST_OUTCOME, MOST_OUTCOME)) {
            return BAD;
        }
        return trial.add(way, outcome);
    }

    public int ends() {
        int many = trial.many;
        trial.many = 0;
        return many;
    }

    public int by(int what) {
        if (!within(what, 0, 1)) {
            return BAD - FAR_BELOW;
        }
        if (trial.lacksWay()) {
            return NOT - FAR_BELOW;
        }
        int ones = trial.manyOf(1);
        int zeros = trial.manyOf(0);
        int above = trial.sumOf(1) * zeros - trial.sumOf(0) * ones;
        int below = ones * zeros;
        int common = commonDivisor(Math.abs(above), below);
        if (common <= 0) {
            return NOT - FAR_BELOW;
        }
        return (what == 0 ? above : below) / common;
    }

    public int share() {
        return trial.lacksWay() ? NOT : trial.thousandthsAsGood();
    }

    public int verdict() {
        if (trial.lacksWay()) {
            return NOT;
        }
        int thousandths = trial.thousandthsAsGood();
        if (thousandths < marks[LEVEL]) {
            return 1;
        }
        return thousandths >= LIKE_FROM ? 0 : OPEN;
    }

    // ---- 5 sheets

    public int sheet(int sheet, int lane, int n) {
        Sheet of = sheetAt(sheet);
        if (of == null || !isLane(lane) || n > MOST_ITEMS) {
            return BAD;
        }
        if (n < 0) {
            return SIZE;
        }
        of.renew(lane, n);
        return n;
    }

    public int drop(int sheet) {
        Sheet of = sheetAt(sheet);
        if (of == null) {
            return BAD;
        }
        if (of.isMissing()) {
            return NULL;
        }
        int many = of.length;
        of.length = Sheet.MISSING;
        return many;
    }

    public int item(int sheet, int lane, int i, int v) {
        Sheet of = sheetAt(sheet);
        if (of == null || !isLane(lane)) {
            return BAD;
        }
        int refused = of.refusal(lane, i, 1);
        if (refused < 0) {
            return refused;
        }
        of.write(i, v);
        return 1;
    }

    public int copy(int from, int i, int to, int j, int n) {
        Sheet source = sheetAt(from);
        Sheet target = sheetAt(to);
        if (source == null || target == null) {
            return BAD;
        }
        if (source.isMissing() || target.isMissing()) {
            return NULL;
        }
        if (source.lane != target.lane) {
            return CAST;
        }
        if (!source.holds(i, n) || !target.holds(j, n)) {
            return INDEX;
        }
        System.arraycopy(source.items, i, target.items, j, n);
        return n;
    }

    // ---- what several calls ask

    private Learner learnerAt(int number) {
        return within(number, 0, learnersMany - 1) ? learners[number] : null;
    }

    private Sheet sheetAt(int number) {
        return within(number, 0, SHEETS - 1) ? sheets[number] : null;
    }

    private static boolean within(int v, int least, int most) {
        return v >= least && v <= most;
    }

    private static boolean isNumber(int v) {
        return within(v, 0, MOST_NUMBER);
    }

    private static boolean isTask(int much, int less) {
        return isNumber(less) && within(much, less, MOST_NUMBER);
    }

    private static boolean isSet(int set) {
        return within(set, 0, MOST_SET);
    }

    private static boolean isLane(int lane) {
        return within(lane, 0, MOST_LANE);
    }

    private static boolean isDay(int day) {
        return within(day, 0, MOST_DAY);
    }

    private static int placeInOrder(int set) {
        for (int place = 0; place < ORDER.length; place++) {
            if (ORDER[place] == set) {
                return place;
            }
        }
        return -1;
    }

    private static int taskNumber(int much, int less) {
        return 1000 * much + less;
    }

    /** One number for a TASK with its ANSWER, ordered by MUCH, LESS, ANSWER. */
    private static int caseNumber(int much, int less, int answer) {
        return 1000 * taskNumber(much, less) + answer;
    }

    private static int muchOf(int caseNumber) {
        return caseNumber / 1000000;
    }

    private static int lessOf(int caseNumber) {
        return caseNumber / 1000 % 1000;
    }

    private static int answerOf(int caseNumber) {
        return caseNumber % 1000;
    }

    private static int digitOf(int number, int column) {
        switch (column) {
            case 0:
                return number % 10;
            case 1:
                return number / 10 % 10;
            default:
                return number / 100 % 10;
        }
    }

    private static int byteOf(long w, int j) {
        return (int) (w >>> (8 * j)) & 255;
    }

    /** What a row of eight tells of all SKILLS that are bits, together. */
    private static int total(int[] row, int bits) {
        int sum = 0;
        for (int skill = 0; skill < SKILLS && skill < row.length; skill++) {
            if ((bits >> skill & 1) == 1) {
                sum += row[skill];
            }
        }
        return sum;
    }

    private static int commonDivisor(int a, int b) {
        int greater = a;
        int rest = b;
        // Euclid's steps on ints are fewer than 50.
        for (int step = 0; step < 100 && rest != 0; step++) {
            int next = greater % rest;
            greater = rest;
            rest = next;
        }
        return greater;
    }

    /** Where a TASK is worked, COLUMN by COLUMN: the digits and what was done for each. */
    private static final class Paper {
        final int[] digits = new int[COLUMNS];
        final int[] done = new int[COLUMNS];
        private final int[] above = new int[COLUMNS];

        /** WORK of a TASK by a SET: the ANSWER. */
        int fill(int much, int less, int set) {
            above[0] = much % 10;
            above[1] = much / 10 % 10;
            above[2] = much / 100 % 10;
            int rest = less;
            for (int column = 0; column < COLUMNS; column++) {
                boolean beyond = column > 0 && rest == 0;
                fillColumn(column, rest % 10, beyond, set);
                rest /= 10;
            }
            return 100 * digits[2] + 10 * digits[1] + digits[0];
        }

        private void fillColumn(int column, int below, boolean beyond, int set) {
            int up = above[column];
            if (beyond && has(set, 6)) {
                note(column, 0, 0);
            } else if (below == 0 && has(set, 5)) {
                note(column, 1, 0);
            } else if (up == 0 && below > 0 && has(set, 2)) {
                note(column, 2, below);
            } else if (up >= below) {
                note(column, 3, up - below);
            } else if (has(set, 0)) {
                note(column, 4, below - up);
            } else {
                note(column, 5, 10 + up - below);
                if (!has(set, 1)) {
                    pay(column + 1, set);
                }
            }
        }

        private void note(int column, int what, int digit) {
            done[column] = what;
            digits[column] = digit;
        }

        private void pay(int from, int set) {
            for (int column = from; column < COLUMNS; column++) {
                if (above[column] > 0) {
                    above[column] = has(set, 7) ? Math.min(9, above[column] + 1) : above[column] - 1;
                    return;
                }
                if (has(set, 3)) {
                    above[column] = 9;
                    return;
                }
                if (!has(set, 4)) {
                    above[column] = 9;
                }
            }
        }

        private static boolean has(int set, int fault) {
            return (set >> fault & 1) == 1;
        }
    }

    /** A LEARNER: the ANSWERS, and what was EXERCISED. */
    private static final class Learner {
        int many = 0;
        /** How many ANSWERS are not ASIDE. */
        int counted = 0;
        final Memory memory = new Memory();
        private final int[] cases = new int[MOST_ANSWERS];
        private final boolean[] isAside = new boolean[MOST_ANSWERS];
        private final boolean[] isStrange = new boolean[MOST_ANSWERS];
        /** By place in ORDER: how many of the ANSWERS that are not ASIDE that SET gives. */
        private final int[] hits = new int[ORDER.length];

        int take(int much, int less, int answer, Paper paper) {
            if (many >= MOST_ANSWERS) {
                return FULL;
            }
            int number = many;
            cases[number] = caseNumber(much, less, answer);
            isAside[number] = false;
            isStrange[number] = !weigh(number, 1, paper);
            many++;
            counted++;
            return number;
        }

        /** Each KNOWN SET that gives an ANSWER gets more hits; whether any does. */
        private boolean weigh(int number, int more, Paper paper) {
            int much = muchOf(cases[number]);
            int less = lessOf(cases[number]);
            int answer = answerOf(cases[number]);
            boolean any = false;
            for (int place = 0; place < ORDER.length; place++) {
                if (paper.fill(much, less, ORDER[place]) == answer) {
                    hits[place] += more;
                    any = true;
                }
            }
            return any;
        }

        /** An ANSWER is put ASIDE, or back; whether it was ASIDE. */
        boolean put(int number, boolean away, Paper paper) {
            boolean was = isAside[number];
            if (was != away) {
                isAside[number] = away;
                int more = away ? -1 : 1;
                counted += more;
                weigh(number, more, paper);
            }
            return was;
        }

        int pointsAt(int place, int[] marks) {
            int right = hits[place];
            return right * marks[GAIN] - (counted - right) * marks[LOSS]
                - Integer.bitCount(ORDER[place]) * marks[COST];
        }

        int bestPlace(int[] marks) {
            int best = 0;
            int most = pointsAt(0, marks);
            for (int place = 1; place < ORDER.length; place++) {
                int points = pointsAt(place, marks);
                if (points > most) {
                    most = points;
                    best = place;
                }
            }
            return best;
        }

        int leadOf(int best, int[] marks) {
            int next = pointsAt(best == 0 ? 1 : 0, marks);
            for (int place = 0; place < ORDER.length; place++) {
                if (place != best) {
                    next = Math.max(next, pointsAt(place, marks));
                }
            }
            return pointsAt(best, marks) - next;
        }

        /** The right way is the SET without a FAULT, the first in ORDER. */
        int rightOnes() {
            return hits[0];
        }

        int strangeOnes() {
            int found = 0;
            for (int number = 0; number < many; number++) {
                if (isStrange[number] && !isAside[number]) {
                    found++;
                }
            }
            return found;
        }

        void tellStrange(Oddities oddities) {
            for (int number = 0; number < many; number++) {
                if (isStrange[number] && !isAside[number]) {
                    oddities.add(cases[number]);
                }
            }
        }
    }

    /** The STRANGE ANSWERS of all LEARNERS, gathered anew for each call that asks. */
    private static final class Oddities {
        /** The one that most gave, when mostGiven() has looked. */
        int found = 0;
        private final int[] cases = new int[MOST_LEARNERS * MOST_ANSWERS];
        private int many = 0;

        void clear() {
            many = 0;
        }

        void add(int caseNumber) {
            if (many < cases.length) {
                cases[many] = caseNumber;
                many++;
            }
        }

        int mostGiven() {
            int most = 0;
            for (int one = 0; one < many; one++) {
                int alike = 0;
                for (int other = 0; other < many; other++) {
                    if (cases[other] == cases[one]) {
                        alike++;
                    }
                }
                if (alike > most || alike == most && cases[one] < found) {
                    most = alike;
                    found = cases[one];
                }
            }
            return most;
        }
    }

    /** What a LEARNER has EXERCISED, by SKILL. */
    private static final class Memory {
        private static final int FIRST_HALF = 8;
        private static final int MOST_HALF = 512;
        private static final int NEVER = -1;

        final int[] latest = new int[SKILLS];
        final boolean[] known = new boolean[SKILLS];
        private final int[] half = new int[SKILLS];

        Memory() {
            forget();
        }

        private void forget() {
            for (int skill = 0; skill < SKILLS; skill++) {
                latest[skill] = NEVER;
                known[skill] = false;
                half[skill] = FIRST_HALF;
            }
        }

        int practise(int skill, int day, boolean right) {
            latest[skill] = day;
            if (right) {
                known[skill] = true;
                half[skill] = Math.min(MOST_HALF, 2 * half[skill]);
            } else {
                half[skill] = Math.max(1, half[skill] / 2);
            }
            return half[skill];
        }

        /** ODDS on a DAY that is not ahead of the latest one. */
        int oddsOn(int skill, int day) {
            int below = half[skill] + day - latest[skill];
            if (!known[skill] || below <= 0) {
                return 0;
            }
            return 1000 * half[skill] / below;
        }

        /** ODDS, cut, are below v just when 1000 HALF is below v times (HALF and DAYS). */
        int firstFaded(int skill, int v) {
            if (v <= 0) {
                return NONE;
            }
            return latest[skill] + (1000 - v) * half[skill] / v + 1;
        }

        int latestOfAll() {
            int day = NEVER;
            for (int skill = 0; skill < SKILLS; skill++) {
                day = Math.max(day, latest[skill]);
            }
            return day;
        }

        /** The SKILLS that are held on a DAY, as bits. */
        int heldOn(int day) {
            int bits = 0;
            for (int skill = 0; skill < SKILLS; skill++) {
                if (oddsOn(skill, day) >= HELD_FROM) {
                    bits |= 1 << skill;
                }
            }
            return bits;
        }
    }

    /** The SKILLS of a TEXT; one of 0 HOURS is not told there. */
    private static final class Course {
        final int[] hours = new int[SKILLS];
        final int[] gain = new int[SKILLS];
        final int[] leans = new int[SKILLS];

        void clear() {
            for (int skill = 0; skill < SKILLS; skill++) {
                hours[skill] = 0;
                gain[skill] = 0;
                leans[skill] = 0;
            }
        }

        boolean has(int skill) {
            return within(skill, 0, SKILLS - 1) && hours[skill] > 0;
        }

        /** The bits ascend, so that of like WAYS the least bits stay. */
        int bestWay(int held, int mostHours) {
            int best = 0;
            int bestGain = 0;
            int bestHours = 0;
            for (int bits = 1; bits < 1 << SKILLS; bits++) {
                if ((bits & held) != 0 || !stands(bits, held)) {
                    continue;
                }
                int hoursOf = total(hours, bits);
                int gainOf = total(gain, bits);
                if (hoursOf <= mostHours && (gainOf > bestGain || gainOf == bestGain && hoursOf < bestHours)) {
                    best = bits;
                    bestGain = gainOf;
                    bestHours = hoursOf;
                }
            }
            return best;
        }

        /** Whether all SKILLS of bits are told, with all on which they LEAN held or among them. */
        private boolean stands(int bits, int held) {
            for (int skill = 0; skill < SKILLS; skill++) {
                boolean isIn = (bits >> skill & 1) == 1;
                if (isIn && (!has(skill) || (leans[skill] & ~(bits | held)) != 0)) {
                    return false;
                }
            }
            return true;
        }
    }

    /**
     * THE TAPE, and how it is read as a TEXT of SKILLS. Each step moves behind blanks, and on only
     * over what can stand there: so where a step fails, place is that of the FAULT.
     */
    private static final class Tape {
        private static final int BLANK = 32;
        private static final int MOST_HOURS = 20;
        private static final int MOST_GAIN = 99;

        int length = 0;
        private final byte[] bytes = new byte[MOST_BYTES];
        private int place = 0;

        void append(int b) {
            if (length < MOST_BYTES) {
                bytes[length] = (byte) b;
                length++;
            }
        }

        /** How many SKILLS the TEXT tells, or its FAULT. */
        int readInto(Course course) {
            course.clear();
            place = 0;
            for (int clauses = 1; clauses <= SKILLS; clauses++) {
                if (!readClause(course)) {
                    break;
                }
                if (next() < 0) {
                    return clauses;
                }
                if (clauses == SKILLS || !pass(';')) {
                    break;
                }
            }
            return FIRST_FAULT_OF_A_TEXT - place;
        }

        private boolean readClause(Course course) {
            int skill = nextSkill();
            if (skill < 0 || course.has(skill)) {
                return false;
            }
            place++;
            if (!pass('=')) {
                return false;
            }
            int hours = readNumber(1, MOST_HOURS);
            if (hours < 0 || !pass('/')) {
                return false;
            }
            int gain = readNumber(0, MOST_GAIN);
            if (gain < 0) {
                return false;
            }
            int leans = pass(':') ? readLeans(course) : 0;
            if (leans < 0) {
                return false;
            }
            course.hours[skill] = hours;
            course.gain[skill] = gain;
            course.leans[skill] = leans;
            return true;
        }

        /** The SKILLS behind a colon, as bits; -1 if one can't stand there. */
        private int readLeans(Course course) {
            int bits = 0;
            for (int many = 0; many < MOST_BYTES; many++) {
                int skill = nextSkill();
                if (skill < 0 || !course.has(skill)) {
                    return -1;
                }
                place++;
                bits |= 1 << skill;
                if (!pass(',')) {
                    return bits;
                }
            }
            return -1;
        }

        /** A number, or -1 (and place at its first byte) if it is none or not within. */
        private int readNumber(int least, int most) {
            next();
            int end = place;
            int value = 0;
            while (end < length && within(bytes[end], '0', '9')) {
                // Cut off far above what any number may be, so that it never wraps round.
                value = Math.min(10000, 10 * value + bytes[end] - '0');
                end++;
            }
            if (end == place || !within(value, least, most)) {
                return -1;
            }
            place = end;
            return value;
        }

        /** The next SKILL, which is not passed; -1 if no letter a .. h is next. */
        private int nextSkill() {
            int letter = next();
            return within(letter, 'a', 'a' + SKILLS - 1) ? letter - 'a' : -1;
        }

        private boolean pass(int sign) {
            if (next() != sign) {
                return false;
            }
            place++;
            return true;
        }

        /** The next byte behind blanks, which is not passed; -1 at the end. */
        private int next() {
            while (place < length && bytes[place] == BLANK) {
                place++;
            }
            return place < length ? bytes[place] : -1;
        }
    }

    /** The OUTCOMES, each dealt to a way. */
    private static final class Trial {
        int many = 0;
        private final int[] ways = new int[MOST_DEALT];
        private final int[] outcomes = new int[MOST_DEALT];

        int add(int way, int outcome) {
            if (many >= MOST_DEALT) {
                return FULL;
            }
            ways[many] = way;
            outcomes[many] = outcome;
            many++;
            return many;
        }

        int manyOf(int way) {
            int found = 0;
            for (int number = 0; number < many; number++) {
                if (ways[number] == way) {
                    found++;
                }
            }
            return found;
        }

        int sumOf(int way) {
            int sum = 0;
            for (int number = 0; number < many; number++) {
                if (ways[number] == way) {
                    sum += outcomes[number];
                }
            }
            return sum;
        }

        boolean lacksWay() {
            return manyOf(0) == 0 || manyOf(1) == 0;
        }

        /**
         * SHARE. All OUTCOMES together stay the same, and so does how many each way has: BY is then
         * no less just when the sum of way 1 is no less.
         */
        int thousandthsAsGood() {
            int ones = manyOf(1);
            int sum = sumOf(1);
            int all = 0;
            int asGood = 0;
            for (int dealt = 0; dealt < 1 << many; dealt++) {
                if (Integer.bitCount(dealt) == ones) {
                    all++;
                    if (sumDealt(dealt) >= sum) {
                        asGood++;
                    }
                }
            }
            return all > 0 ? 1000 * asGood / all : NOT;
        }

        private int sumDealt(int dealt) {
            int sum = 0;
            for (int number = 0; number < many; number++) {
                if ((dealt >> number & 1) == 1) {
                    sum += outcomes[number];
                }
            }
            return sum;
        }
    }

    /** A SHEET; its row is kept here even while it holds nothing, so that none is made later. */
    private static final class Sheet {
        static final int MISSING = -1;

        int length = MISSING;
        int lane = 0;
        final int[] items = new int[MOST_ITEMS];

        boolean isMissing() {
            return length < 0;
        }

        void renew(int newLane, int n) {
            lane = newLane;
            length = Math.min(n, MOST_ITEMS);
            for (int i = 0; i < MOST_ITEMS; i++) {
                items[i] = 0;
            }
        }

        boolean holds(int i, int n) {
            return i >= 0 && n >= 0 && n <= length - i;
        }

        /** NULL, CAST or INDEX for n items from i on, taken as a row of a LANE; 0 if all is well. */
        int refusal(int asLane, int i, int n) {
            if (isMissing()) {
                return NULL;
            }
            if (lane != asLane) {
                return CAST;
            }
            return holds(i, n) ? 0 : INDEX;
        }

        int at(int i) {
            return i >= 0 && i < length ? items[i] : 0;
        }

        void write(int i, int v) {
            if (i >= 0 && i < length) {
                items[i] = cut(v);
            }
        }

        private int cut(int v) {
            switch (lane) {
                case 0:
                    return (byte) v;
                case 1:
                    return (short) v;
                default:
                    return v;
            }
        }
    }
}
