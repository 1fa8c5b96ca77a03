import java.util.Arrays;

/**
 * A town in which all must be late. What each call promises stands in the
 * project's document, DOC.md; words in capitals there are said small here.
 */
public final class LateAlways {
    public static final int NONE = -1;

    private static final int PEOPLE = 5;
    private static final int MEETINGS = 8;
    private static final int RULES = 6;
    private static final int IMAGES = 4;
    private static final int ACTS = 20;
    private static final int LOGS = 10;
    private static final int TAPE_BYTES = 400;
    private static final int LAST_MINUTE = 600;
    private static final int LAST_DAY = 999;
    private static final int LAST_LOG_DAY = 30;
    private static final int HABITS = 9;
    private static final int DAYS_LOOKED_AT = 100;
    private static final int MEANT_LEAST = -30;
    private static final int MEANT_MOST = 120;
    private static final int CLOCK_MOST = 20;
    private static final int NOBODY_THERE = -1000;

    private final Tape tape = new Tape();
    private final TownReader townReader = new TownReader(tape);
    private final RuleReader ruleReader = new RuleReader(tape);
    private final Rule[] rules = new Rule[RULES];
    private int ruleCount = 0;
    private final Whole now = new Whole();
    private final Whole[] images = new Whole[IMAGES];
    private final Course course = new Course();
    private final Watch watch = new Watch();

    public LateAlways() {
    }

    public int feed(int a, int b, int c, int d, int e) {
        if (tape.length + 20 > TAPE_BYTES) {
            return NONE;
        }
        tape.append(a);
        tape.append(b);
        tape.append(c);
        tape.append(d);
        tape.append(e);
        return tape.length;
    }

    public int end(int n) {
        if (n < 0 || n > tape.length) {
            return NONE;
        }
        tape.length = n;
        return n;
    }

    public int town() {
        int fault = townReader.read();
        tape.length = 0;
        if (fault != 0) {
            return -2 - fault;
        }
        now.moveInto(townReader.town);
        return now.town.meetings;
    }

    public int rule() {
        if (ruleCount >= RULES) {
            return NONE;
        }
        int fault = ruleReader.read();
        tape.length = 0;
        if (fault != 0) {
            return -2 - fault;
        }
        rules[ruleCount] = ruleReader.ruleThatWasRead();
        ruleCount++;
        return ruleCount - 1;
    }

    public int force(int rule) {
        if (rule < NONE || rule >= ruleCount) {
            return -2;
        }
        int before = now.ruleInForce;
        now.ruleInForce = rule;
        return before;
    }

    public int person(int person, int what) {
        if (!isPerson(person)) {
            return NOBODY_THERE;
        }
        int[] cells = now.state.cells;
        switch (what) {
            case 0: return now.town.habits[person];
            case 1: return cells[State.CLOCK + person];
            case 2: return now.state.isExempt(person) ? 1 : 0;
            case 3: return cells[State.LAST + person];
            case 4: return cells[State.FINES + person];
            case 5: return cells[State.WAITED + person];
            case 6: return now.town.meetingsOf(person);
            default: return NOBODY_THERE;
        }
    }

    public int meeting(int meeting, int what) {
        if (!isMeeting(meeting)) {
            return NONE;
        }
        int[] cells = now.state.cells;
        switch (what) {
            case 0: return now.town.firsts[meeting];
            case 1: return now.town.seconds[meeting];
            case 2: return cells[State.MINUTE + meeting];
            case 3: return now.town.lengths[meeting];
            case 4: return cells[State.HELD + meeting];
            case 5: return cells[State.MISSED + meeting];
            default: return NONE;
        }
    }

    public int day() {
        if (!now.town.told || now.state.cells[State.DAY] >= LAST_DAY) {
            return NONE;
        }
        now.rememberForUndo();
        startFromNow();
        course.goDay();
        now.state.copyFrom(course.state);
        return course.missed;
    }

    public int ask(int meeting, int minute) {
        if (!isMeeting(meeting) || minute < 0 || minute > LAST_MINUTE) {
            return NONE;
        }
        return act(State.MINUTE + meeting, minute, NONE);
    }

    public int set(int person, int clock) {
        if (!isPerson(person) || clock < -CLOCK_MOST || clock > CLOCK_MOST) {
            return NOBODY_THERE;
        }
        return act(State.CLOCK + person, clock, NOBODY_THERE);
    }

    public int let(int person) {
        if (!isPerson(person)) {
            return NONE;
        }
        now.rememberForUndo();
        now.state.cells[State.EXEMPT] ^= 1 << person;
        return now.state.isExempt(person) ? 1 : 0;
    }

    public int undo() {
        if (now.actCount <= 0) {
            return -2;
        }
        now.undoLast();
        return now.actCount;
    }

    public int ahead(int person, int n, int what) {
        if (!isPerson(person) || n < 0 || n > 100 || what < 0 || what > 2) {
            return NOBODY_THERE;
        }
        startFromNow();
        course.goDays(n);
        int[] cells = course.state.cells;
        switch (what) {
            case 0: return cells[State.CLOCK + person];
            case 1: return cells[State.FINES + person];
            default: return cells[State.WAITED + person];
        }
    }

    public int today(int meeting, int what) {
        if (!isMeeting(meeting) || what < 0 || what > 3) {
            return NOBODY_THERE;
        }
        startFromNow();
        course.goDay();
        switch (what) {
            case 0: return course.book.begins[meeting];
            case 1: return course.book.lates[2 * meeting];
            case 2: return course.book.lates[2 * meeting + 1];
            default: return course.book.waits[meeting];
        }
    }

    public int ends(int person) {
        if (!isPerson(person)) {
            return NOBODY_THERE;
        }
        if (now.town.meetingsOf(person) == 0) {
            return NONE;
        }
        startFromNow();
        course.goDay();
        return course.book.ends[person];
    }

    public int chain(int what) {
        if (!now.town.told || what < 0 || what > 1) {
            return NOBODY_THERE;
        }
        startFromNow();
        course.goDay();
        int who = NONE;
        int when = NONE;
        for (int p = 0; p < now.town.people; p++) {
            if (now.town.meetingsOf(p) != 0 && (who == NONE || course.book.ends[p] > when)) {
                who = p;
                when = course.book.ends[p];
            }
        }
        return what == 0 ? who : when;
    }

    public int minute(int meeting, int what) {
        if (!isMeeting(meeting) || what < 0 || what > 2) {
            return NONE;
        }
        int asked = now.state.cells[State.MINUTE + meeting];
        int last = Math.min(LAST_MINUTE, asked + 60);
        int best = NONE;
        int missed = 0;
        int costs = 0;
        for (int m = Math.max(0, asked - 60); m <= last; m++) {
            startFromNow();
            course.state.cells[State.MINUTE + meeting] = m;
            course.goDay();
            if (best == NONE || course.missed < missed
                    || course.missed == missed && course.costs < costs) {
                best = m;
                missed = course.missed;
                costs = course.costs;
            }
        }
        if (what == 0) {
            return best;
        }
        return what == 1 ? missed : costs;
    }

    public int leave(int what) {
        if (!now.town.told || what < 0 || what > 1) {
            return NONE;
        }
        int best = -2;
        int costs = -2;
        for (int m = 0; m < now.town.meetings; m++) {
            startFromNow();
            course.leftOut = m;
            course.goDay();
            if (best == -2 || course.costs < costs) {
                best = m;
                costs = course.costs;
            }
        }
        return what == 0 ? best : costs;
    }

    public int rests(int meeting, int what) {
        if (!isMeeting(meeting) || what < 0 || what > 2) {
            return NONE;
        }
        for (int two = 0; two < Watch.TWOS; two++) {
            startFromNow();
            course.fixMeant(meeting, Watch.meantByFirst(two), Watch.meantBySecond(two));
            course.goDay();
            int[] costs = course.book.costsOfEach;
            watch.keepTwo(two, costs[2 * meeting], costs[2 * meeting + 1]);
        }
        int many = 0;
        int first = NONE;
        for (int two = 0; two < Watch.TWOS; two++) {
            if (watch.neitherParts(two)) {
                many++;
                first = first == NONE ? two : first;
            }
        }
        if (what == 0) {
            return many;
        }
        if (first == NONE) {
            return -2;
        }
        return what == 1 ? Watch.meantByFirst(first) : Watch.meantBySecond(first);
    }

    public int again(int what) {
        if (!now.town.told || what < 0 || what > 1) {
            return NONE;
        }
        startFromNow();
        watch.keepState(0, course.state);
        for (int i = 1; i < DAYS_LOOKED_AT; i++) {
            course.goDay();
            watch.keepState(i, course.state);
            int before = watch.lastAlike(i);
            if (before != NONE) {
                return what == 0 ? now.state.cells[State.DAY] + i : i - before;
            }
        }
        return -2;
    }

    public int law(int n, int what) {
        if (!isSpan(n) || what < 0 || what > 2) {
            return NONE;
        }
        int bestLeast = NONE;
        int bestMost = NONE;
        int costs = 0;
        for (int least = 0; least <= 50; least += 10) {
            for (int most = Math.max(10, least); most <= 60; most += 10) {
                startFromNow();
                course.least = least;
                course.most = most;
                course.goDays(n);
                if (bestLeast == NONE || course.costs < costs) {
                    bestLeast = least;
                    bestMost = most;
                    costs = course.costs;
                }
            }
        }
        if (what == 0) {
            return bestLeast;
        }
        return what == 1 ? bestMost : costs;
    }

    public int log(int n, int person, int late) {
        if (n == NONE) {
            now.logCount = 0;
            return 0;
        }
        boolean told = n >= 0 && n <= LAST_LOG_DAY && isPerson(person) && late >= -100 && late <= 1000;
        if (!told || now.logCount >= LOGS) {
            return -2;
        }
        now.addLog(n, person, late);
        return now.logCount;
    }

    public int habit(int person, int what) {
        if (!isPerson(person) || what < 0 || what > 1) {
            return NOBODY_THERE;
        }
        int fitting = habitsThatFit(person);
        if (what == 0) {
            return Integer.bitCount(fitting);
        }
        for (int i = 0; i < HABITS; i++) {
            if ((fitting >> i & 1) == 1) {
                return habitOf(i);
            }
        }
        return -100;
    }

    public int door(int person, int what) {
        if (!isPerson(person) || what < 0 || what > 1) {
            return NONE;
        }
        int fitting = habitsThatFit(person);
        if (fitting == 0) {
            return -2;
        }
        int best = NONE;
        int alike = 0;
        for (int n = 0; n <= LAST_LOG_DAY; n++) {
            int most = watch.mostAlike(fitting, n);
            if (best == NONE || most < alike) {
                best = n;
                alike = most;
            }
        }
        return what == 0 ? best : alike;
    }

    public int clocks(int n, int what) {
        if (!isSpan(n) || what < 0 || what > 1) {
            return -2;
        }
        startFromNow();
        course.goDays(n);
        int best = NONE;
        int costs = course.costs;
        for (int p = 0; p < now.town.people; p++) {
            startFromNow();
            course.state.cells[State.CLOCK + p] = 0;
            course.goDays(n);
            if (course.costs < costs) {
                best = p;
                costs = course.costs;
            }
        }
        return what == 0 ? best : costs;
    }

    public int pardon(int n, int what) {
        if (!isSpan(n) || what < 0 || what > 1) {
            return -2;
        }
        startFromNow();
        course.goDays(n);
        int best = NONE;
        int waited = course.waited;
        for (int p = 0; p < now.town.people; p++) {
            startFromNow();
            // who is exempt already changes nothing, and nobody is ahead of several
            course.state.cells[State.EXEMPT] |= 1 << p;
            course.goDays(n);
            if (course.waited < waited) {
                best = p;
                waited = course.waited;
            }
        }
        return what == 0 ? best : waited;
    }

    public int worth(int meeting, int n) {
        if (!isMeeting(meeting) || !isSpan(n)) {
            return -1000000;
        }
        startFromNow();
        course.goDays(n);
        int with = course.costs;
        startFromNow();
        course.leftOut = meeting;
        course.goDays(n);
        return with - course.costs;
    }

    public int seed(int x) {
        if (x < 0) {
            return NONE;
        }
        int before = now.x;
        now.x = x;
        return before;
    }

    public int years(int m, int n, int what) {
        if (!now.town.told || m < 1 || m > 10 || n < 1 || n > 60 || what < 0 || what > 1) {
            return NONE;
        }
        int missed = 0;
        int costs = 0;
        int x = now.x;
        for (int i = 0; i < m; i++) {
            startFromNow();
            course.drawFrom(x);
            course.goDays(n);
            x = course.x;
            missed += course.missed;
            costs += course.costs;
        }
        return what == 0 ? missed : costs;
    }

    public int count(int what) {
        switch (what) {
            case 0: return now.town.least;
            case 1: return now.town.most;
            case 2: return now.town.patience;
            case 3: return now.town.people;
            case 4: return now.town.meetings;
            case 5: return ruleCount;
            case 6: return now.ruleInForce;
            case 7: return now.state.cells[State.DAY];
            case 8: return now.state.cells[State.EXEMPT];
            case 9: return now.state.sumOfPeople(State.FINES);
            case 10: return now.state.sumOfPeople(State.WAITED);
            case 11: return now.logCount;
            case 12: return now.actCount;
            case 13: return now.x;
            case 14: return tape.length;
            default: return NONE;
        }
    }

    public int image(int k) {
        if (k < 0 || k >= IMAGES) {
            return NONE;
        }
        if (images[k] == null) {
            images[k] = new Whole();
        }
        images[k].copyFrom(now);
        return now.state.cells[State.DAY];
    }

    public int back(int k) {
        if (k < 0 || k >= IMAGES || images[k] == null) {
            return NONE;
        }
        now.copyFrom(images[k]);
        return now.state.cells[State.DAY];
    }

    private boolean isPerson(int person) {
        return person >= 0 && person < now.town.people;
    }

    private boolean isMeeting(int meeting) {
        return meeting >= 0 && meeting < now.town.meetings;
    }

    private boolean isSpan(int n) {
        return now.town.told && n >= 1 && n <= 20;
    }

    private Rule ruleThatIsInForce() {
        int number = now.ruleInForce;
        return number >= 0 && number < ruleCount ? rules[number] : null;
    }

    private void startFromNow() {
        course.start(now.town, ruleThatIsInForce());
        course.state.copyFrom(now.state);
    }

    /** One cell becomes another value: what it was, or unchanged if it is that already. */
    private int act(int cell, int value, int unchanged) {
        int before = now.state.cells[cell];
        if (before == value) {
            return unchanged;
        }
        now.rememberForUndo();
        now.state.cells[cell] = value;
        return before;
    }

    private static int habitOf(int i) {
        return 10 * i - 20;
    }

    /** Bit i stands for the i-th habit; what each leads to stays in the watch. */
    private int habitsThatFit(int person) {
        int fitting = 0;
        for (int i = 0; i < HABITS; i++) {
            course.start(now.town, ruleThatIsInForce());
            course.habits[person] = habitOf(i);
            course.state.begin(now.town, course.habits);
            for (int n = 0; n <= LAST_LOG_DAY; n++) {
                course.goDay();
                watch.keepLate(i, n, course.state.cells[State.LAST + person]);
            }
            if (watch.fitsLogs(i, person, now)) {
                fitting |= 1 << i;
            }
        }
        return fitting;
    }

    /** The bytes that were fed, and where a reader stands in them. */
    static final class Tape {
        static final int END = -1;
        static final int NUMBER = -2;
        static final int WORD = -3;
        static final int OR_EQUAL = 256;
        static final int CANT_STAND = 0;
        static final int BAD_NUMBER = 1;
        static final int TOO_DEEP = 2;
        static final int VALUE_TOO_MANY = 3;
        static final int CLAUSE_TOO_MANY = 4;

        private final int[] bytes = new int[TAPE_BYTES];
        private int length = 0;
        private int place = 0;
        private int fault = 0;
        /** Of the token that was read last: END, NUMBER, WORD or its byte; where it starts; a number's value. */
        private int token = END;
        private int start = 0;
        private int value = 0;

        void append(int four) {
            for (int shift = 24; shift >= 0 && length < TAPE_BYTES; shift -= 8) {
                bytes[length] = four >>> shift & 255;
                length++;
            }
        }

        void rewind() {
            place = 0;
            fault = 0;
        }

        /** Only the first fault counts, as readers go along the text and look for the least of a place first. */
        void blame(int kind) {
            if (fault == 0) {
                fault = 1 + 8 * start + kind;
            }
        }

        void step() {
            while (place < length && bytes[place] == ' ') {
                place++;
            }
            start = place;
            if (place >= length) {
                token = END;
            } else if (isDigit(bytes[place])) {
                stepOverDigits();
            } else if (isLetter(bytes[place])) {
                stepOverLetters();
            } else {
                stepOverSign();
            }
        }

        boolean isWord(String word) {
            if (token != WORD || place - start != word.length()) {
                return false;
            }
            for (int i = 0; i < word.length(); i++) {
                if (bytes[start + i] != word.charAt(i)) {
                    return false;
                }
            }
            return true;
        }

        /** The next token as a number of these bounds; 0 if it is none, or if there was a fault before. */
        int readNumber(int from, int to) {
            if (fault != 0) {
                return 0;
            }
            step();
            if (token != NUMBER) {
                blame(CANT_STAND);
                return 0;
            }
            if (value < 0 || value < from || value > to) {
                blame(BAD_NUMBER);
                return 0;
            }
            return value;
        }

        /** The value is NONE with more than five digits. */
        private void stepOverDigits() {
            token = NUMBER;
            value = 0;
            while (place < length && isDigit(bytes[place])) {
                boolean tooLong = place - start >= 5;
                value = tooLong ? NONE : value * 10 + bytes[place] - '0';
                place++;
            }
        }

        private void stepOverLetters() {
            token = WORD;
            while (place < length && isLetter(bytes[place])) {
                place++;
            }
        }

        private void stepOverSign() {
            token = bytes[place];
            place++;
            boolean mayGoOn = token == '<' || token == '>';
            if (mayGoOn && place < length && bytes[place] == '=') {
                token += OR_EQUAL;
                place++;
            }
        }

        private static boolean isDigit(int b) {
            return b >= '0' && b <= '9';
        }

        private static boolean isLetter(int b) {
            return b >= 'a' && b <= 'z';
        }
    }

    /** What a text told of a town; acts leave it as it is. */
    static final class Town {
        private boolean told = false;
        private int least = 0;
        private int most = 0;
        private int patience = 0;
        private int earlyFine = 1;
        private int overFine = 1;
        private int exempt = 0;
        private int people = 0;
        private int meetings = 0;
        private final int[] habits = new int[PEOPLE];
        private final int[] clocksTold = new int[PEOPLE];
        private final int[] firsts = new int[MEETINGS];
        private final int[] seconds = new int[MEETINGS];
        private final int[] minutes = new int[MEETINGS];
        private final int[] lengths = new int[MEETINGS];

        void clear() {
            told = false;
            least = 0;
            most = 0;
            patience = 0;
            earlyFine = 1;
            overFine = 1;
            exempt = 0;
            people = 0;
            meetings = 0;
        }

        void copyFrom(Town other) {
            told = other.told;
            least = other.least;
            most = other.most;
            patience = other.patience;
            earlyFine = other.earlyFine;
            overFine = other.overFine;
            exempt = other.exempt;
            people = other.people;
            meetings = other.meetings;
            System.arraycopy(other.habits, 0, habits, 0, PEOPLE);
            System.arraycopy(other.clocksTold, 0, clocksTold, 0, PEOPLE);
            System.arraycopy(other.firsts, 0, firsts, 0, MEETINGS);
            System.arraycopy(other.seconds, 0, seconds, 0, MEETINGS);
            System.arraycopy(other.minutes, 0, minutes, 0, MEETINGS);
            System.arraycopy(other.lengths, 0, lengths, 0, MEETINGS);
        }

        int meetingsOf(int person) {
            int bits = 0;
            for (int m = 0; m < meetings; m++) {
                if (firsts[m] == person || seconds[m] == person) {
                    bits |= 1 << m;
                }
            }
            return bits;
        }
    }

    /** All that acts change, in one row, so that it is copied at once. */
    static final class State {
        static final int CLOCK = 0;
        static final int LAST = CLOCK + PEOPLE;
        static final int FINES = LAST + PEOPLE;
        static final int WAITED = FINES + PEOPLE;
        static final int MINUTE = WAITED + PEOPLE;
        static final int HELD = MINUTE + MEETINGS;
        static final int MISSED = HELD + MEETINGS;
        static final int EXEMPT = MISSED + MEETINGS;
        static final int DAY = EXEMPT + 1;
        static final int SIZE = DAY + 1;

        private final int[] cells = new int[SIZE];

        void copyFrom(State other) {
            System.arraycopy(other.cells, 0, cells, 0, SIZE);
        }

        /** Day 0 of a town, with habits that may be others than the text told. */
        void begin(Town town, int[] habits) {
            Arrays.fill(cells, 0);
            for (int p = 0; p < town.people; p++) {
                cells[CLOCK + p] = town.clocksTold[p];
                cells[LAST + p] = habits[p];
            }
            for (int m = 0; m < town.meetings; m++) {
                cells[MINUTE + m] = town.minutes[m];
            }
            cells[EXEMPT] = town.exempt;
        }

        boolean isExempt(int person) {
            return (cells[EXEMPT] >> person & 1) == 1;
        }

        int sumOfPeople(int from) {
            int sum = 0;
            for (int p = 0; p < PEOPLE; p++) {
                sum += cells[from + p];
            }
            return sum;
        }
    }

    /** All that an image holds. */
    static final class Whole {
        private static final int LOG_SIZE = 3;

        private final Town town = new Town();
        private final State state = new State();
        private int ruleInForce = NONE;
        private int x = 0;
        private int logCount = 0;
        private final int[] logs = new int[LOGS * LOG_SIZE];
        /** A ring of the states that were ahead of the last acts; actPlace is the next to be written. */
        private final int[] statesBefore = new int[ACTS * State.SIZE];
        private int actPlace = 0;
        private int actCount = 0;

        void copyFrom(Whole other) {
            town.copyFrom(other.town);
            state.copyFrom(other.state);
            ruleInForce = other.ruleInForce;
            x = other.x;
            logCount = other.logCount;
            System.arraycopy(other.logs, 0, logs, 0, LOGS * LOG_SIZE);
            System.arraycopy(other.statesBefore, 0, statesBefore, 0, ACTS * State.SIZE);
            actPlace = other.actPlace;
            actCount = other.actCount;
        }

        void moveInto(Town next) {
            town.copyFrom(next);
            state.begin(town, town.habits);
            logCount = 0;
            actCount = 0;
        }

        void rememberForUndo() {
            System.arraycopy(state.cells, 0, statesBefore, actPlace * State.SIZE, State.SIZE);
            actPlace = (actPlace + 1) % ACTS;
            actCount = Math.min(ACTS, actCount + 1);
        }

        void undoLast() {
            actPlace = (actPlace + ACTS - 1) % ACTS;
            actCount--;
            System.arraycopy(statesBefore, actPlace * State.SIZE, state.cells, 0, State.SIZE);
        }

        void addLog(int n, int person, int late) {
            int at = logCount * LOG_SIZE;
            logs[at] = n;
            logs[at + 1] = person;
            logs[at + 2] = late;
            logCount++;
        }

        int logDay(int i) {
            return logs[i * LOG_SIZE];
        }

        int logPerson(int i) {
            return logs[i * LOG_SIZE + 1];
        }

        int logLate(int i) {
            return logs[i * LOG_SIZE + 2];
        }
    }

    /** Reads the tape as a town. */
    static final class TownReader {
        private static final int CLAUSES = 40;

        private final Tape tape;
        private final Town town = new Town();
        private boolean fineTold = false;

        TownReader(Tape tape) {
            this.tape = tape;
        }

        /** The fault, 0 without one; the town is told only then. */
        int read() {
            town.clear();
            fineTold = false;
            tape.rewind();
            boolean goesOn = true;
            for (int clause = 1; goesOn && clause <= TAPE_BYTES; clause++) {
                readClause(clause);
                goesOn = tape.fault == 0 && isClauseBehind();
            }
            return tape.fault;
        }

        private boolean isClauseBehind() {
            tape.step();
            if (tape.token != ';' && tape.token != Tape.END) {
                tape.blame(Tape.CANT_STAND);
            }
            return tape.token == ';';
        }

        private void readClause(int clause) {
            tape.step();
            boolean isTown = tape.isWord("town");
            if (!isClauseWord()) {
                tape.blame(Tape.CANT_STAND);
            } else if (clause > CLAUSES || isTown != (clause == 1)) {
                tape.blame(Tape.CLAUSE_TOO_MANY);
            } else if (isTown) {
                readLaw();
            } else if (tape.isWord("person")) {
                readPerson();
            } else if (tape.isWord("exempt")) {
                readExempt();
            } else if (tape.isWord("meet")) {
                readMeeting();
            } else {
                readFines();
            }
        }

        private boolean isClauseWord() {
            return tape.isWord("town") || tape.isWord("person") || tape.isWord("exempt")
                    || tape.isWord("meet") || tape.isWord("fine");
        }

        private void readLaw() {
            town.least = tape.readNumber(0, 59);
            town.most = tape.readNumber(Math.max(1, town.least), 60);
            town.patience = tape.readNumber(1, 99);
            town.told = tape.fault == 0;
        }

        private void readPerson() {
            if (town.people >= PEOPLE) {
                tape.blame(Tape.CLAUSE_TOO_MANY);
                return;
            }
            town.habits[town.people] = tape.readNumber(0, 80) - 20;
            town.clocksTold[town.people] = tape.readNumber(0, 40) - 20;
            town.people++;
        }

        private void readExempt() {
            int person = tape.readNumber(0, town.people - 1);
            if (tape.fault == 0) {
                town.exempt |= 1 << person;
            }
        }

        private void readMeeting() {
            if (town.meetings >= MEETINGS) {
                tape.blame(Tape.CLAUSE_TOO_MANY);
                return;
            }
            int m = town.meetings;
            town.firsts[m] = tape.readNumber(0, town.people - 1);
            town.seconds[m] = tape.readNumber(0, town.people - 1);
            if (town.seconds[m] == town.firsts[m]) {
                tape.blame(Tape.BAD_NUMBER);
            }
            town.minutes[m] = tape.readNumber(0, LAST_MINUTE);
            town.lengths[m] = tape.readNumber(1, 60);
            town.meetings++;
        }

        private void readFines() {
            if (fineTold) {
                tape.blame(Tape.CLAUSE_TOO_MANY);
                return;
            }
            fineTold = true;
            town.earlyFine = tape.readNumber(0, 9);
            town.overFine = tape.readNumber(0, 9);
        }
    }

    /** The signs and words of a rule, as they stand in its code: a sign, and 32 times what belongs to it. */
    static final class Sign {
        static final int NUMBER = 0;
        static final int WORD = 1;
        static final int PLUS = 2;
        static final int MINUS = 3;
        static final int TIMES = 4;
        static final int BY = 5;
        static final int REST = 6;
        static final int BELOW = 7;
        static final int NOT_ABOVE = 8;
        static final int EQUAL = 9;
        static final int NOT_BELOW = 10;
        static final int ABOVE = 11;
        static final int AND = 12;
        static final int OR = 13;
        static final int NOT = 14;
        static final int BRACKET = 15;
        /** How tight each binds; a bracket holds all that stands before it. */
        private static final int[] TIGHTNESS = {7, 7, 5, 5, 6, 6, 6, 4, 4, 4, 4, 4, 2, 1, 3, 0};

        static final int PERSON = 0;
        static final int MEETING = 1;
        static final int ASKED = 2;
        static final int HABIT = 3;
        static final int LEAST = 4;
        static final int MOST = 5;
        static final int OTHER = 6;
        static final int THEIRS = 7;
        static final int MINE = 8;
        static final int FINED = 9;
        static final int WAITED = 10;
        static final int DAY = 11;
        static final int CLOCK = 12;
        static final int EXEMPT = 13;
        static final int WORDS = 14;

        static int tightnessOf(int sign) {
            return sign >= 0 && sign < TIGHTNESS.length ? TIGHTNESS[sign] : 0;
        }

        static boolean isOfSum(int sign) {
            return sign >= PLUS && sign <= REST;
        }

        static boolean isOfFact(int sign) {
            return sign >= BELOW && sign <= ABOVE;
        }

        /** The sign of a token that is no word, or NONE. */
        static int ofToken(int token) {
            switch (token) {
                case '+': return PLUS;
                case '-': return MINUS;
                case '*': return TIMES;
                case '/': return BY;
                case '%': return REST;
                case '<': return BELOW;
                case '<' + Tape.OR_EQUAL: return NOT_ABOVE;
                case '=': return EQUAL;
                case '>' + Tape.OR_EQUAL: return NOT_BELOW;
                case '>': return ABOVE;
                default: return NONE;
            }
        }

        static String nameOf(int word) {
            switch (word) {
                case PERSON: return "person";
                case MEETING: return "meeting";
                case ASKED: return "asked";
                case HABIT: return "habit";
                case LEAST: return "least";
                case MOST: return "most";
                case OTHER: return "other";
                case THEIRS: return "theirs";
                case MINE: return "mine";
                case FINED: return "fined";
                case WAITED: return "waited";
                case DAY: return "day";
                case CLOCK: return "clock";
                default: return "exempt";
            }
        }
    }

    /**
     * Reads the tape as a rule. It goes token by token with a row of signs that
     * still wait for what they join, so that no nesting of calls is needed.
     */
    static final class RuleReader {
        private static final int CLAUSES = 12;
        private static final int VALUES = 60;
        private static final int DEPTH = 10;
        private static final int WAITING = 64;

        private static final int CLAUSE_DUE = 0;
        private static final int FACT_DUE = 1;
        private static final int VALUE_DUE = 2;
        private static final int SIGN_DUE = 3;
        private static final int OVER = 4;

        private static final int IN_LATE = 0;
        private static final int IN_LEFT = 1;
        private static final int IN_RIGHT = 2;
        private static final int BEHIND_BRACKET = 3;

        private final Tape tape;
        private final int[] code = new int[TAPE_BYTES];
        private int codeLength = 0;
        private final int[] sumStarts = new int[CLAUSES + 1];
        private final int[] testStarts = new int[CLAUSES];
        private int clauses = 0;
        private final int[] waiting = new int[WAITING];
        private int waitingCount = 0;
        private int values = 0;
        private int depth = 0;
        private int brackets = 0;
        private int due = CLAUSE_DUE;
        private int part = IN_LATE;

        RuleReader(Tape tape) {
            this.tape = tape;
        }

        /** The fault, 0 without one. */
        int read() {
            tape.rewind();
            codeLength = 0;
            clauses = 0;
            waitingCount = 0;
            values = 0;
            depth = 0;
            brackets = 0;
            due = CLAUSE_DUE;
            for (int i = 0; i <= TAPE_BYTES && due != OVER && tape.fault == 0; i++) {
                tape.step();
                switch (due) {
                    case CLAUSE_DUE: readLate(); break;
                    case FACT_DUE: readFact(); break;
                    case VALUE_DUE: readValue(); break;
                    default: readSign(); break;
                }
            }
            return tape.fault;
        }

        Rule ruleThatWasRead() {
            return new Rule(clauses, Arrays.copyOf(code, codeLength),
                    Arrays.copyOf(sumStarts, clauses + 1),
                    Arrays.copyOf(testStarts, clauses));
        }

        private void readLate() {
            if (!tape.isWord("late")) {
                tape.blame(Tape.CANT_STAND);
            } else if (clauses >= CLAUSES) {
                tape.blame(Tape.CLAUSE_TOO_MANY);
            } else {
                sumStarts[clauses] = codeLength;
                part = IN_LATE;
                due = VALUE_DUE;
            }
        }

        private void readFact() {
            if (tape.token == '[') {
                goDeeper(Sign.BRACKET);
            } else if (tape.isWord("not")) {
                goDeeper(Sign.NOT);
            } else {
                readValue();
            }
        }

        private void goDeeper(int sign) {
            if (depth >= DEPTH) {
                tape.blame(Tape.TOO_DEEP);
                return;
            }
            depth++;
            brackets += sign == Sign.BRACKET ? 1 : 0;
            letWait(sign);
        }

        private void readValue() {
            int number = tape.token == Tape.NUMBER ? tape.value : wordOfTape();
            if (tape.token == Tape.NUMBER && number < 0) {
                tape.blame(Tape.BAD_NUMBER);
            } else if (number < 0) {
                tape.blame(Tape.CANT_STAND);
            } else if (values >= VALUES) {
                tape.blame(Tape.VALUE_TOO_MANY);
            } else {
                values++;
                write(tape.token == Tape.NUMBER ? Sign.NUMBER : Sign.WORD, number);
                due = SIGN_DUE;
            }
        }

        private int wordOfTape() {
            for (int word = 0; word < Sign.WORDS; word++) {
                if (tape.isWord(Sign.nameOf(word))) {
                    return word;
                }
            }
            return NONE;
        }

        /** Behind a value, or a bracket that closes. */
        private void readSign() {
            int sign = Sign.ofToken(tape.token);
            if (Sign.isOfSum(sign) && part != BEHIND_BRACKET) {
                join(sign, VALUE_DUE);
            } else if (Sign.isOfFact(sign) && part == IN_LEFT) {
                readSignOfFact(sign);
            } else if (part == IN_LEFT) {
                tape.blame(Tape.CANT_STAND);
            } else if (isEndOfClause()) {
                endClause();
            } else if (part == IN_LATE) {
                readIf();
            } else {
                readBehindFact();
            }
        }

        private void readSignOfFact(int sign) {
            if (values >= VALUES) {
                tape.blame(Tape.VALUE_TOO_MANY);
                return;
            }
            values++;
            join(sign, VALUE_DUE);
            part = IN_RIGHT;
        }

        private boolean isEndOfClause() {
            return brackets == 0 && (tape.token == ';' || tape.token == Tape.END);
        }

        private void endClause() {
            boolean hadTest = part != IN_LATE;
            writeWaiting(0);
            if (!hadTest) {
                testStarts[clauses] = codeLength;
            }
            clauses++;
            sumStarts[clauses] = codeLength;
            due = tape.token == ';' ? CLAUSE_DUE : OVER;
        }

        private void readIf() {
            if (!tape.isWord("if")) {
                tape.blame(Tape.CANT_STAND);
                return;
            }
            writeWaiting(0);
            testStarts[clauses] = codeLength;
            part = IN_LEFT;
            due = FACT_DUE;
        }

        private void readBehindFact() {
            if (tape.isWord("and")) {
                join(Sign.AND, FACT_DUE);
                part = IN_LEFT;
            } else if (tape.isWord("or")) {
                join(Sign.OR, FACT_DUE);
                part = IN_LEFT;
            } else if (tape.token == ']' && brackets > 0) {
                writeWaiting(Sign.tightnessOf(Sign.BRACKET) + 1);
                waitingCount = Math.max(0, waitingCount - 1);
                depth--;
                brackets--;
                part = BEHIND_BRACKET;
            } else {
                tape.blame(Tape.CANT_STAND);
            }
        }

        /** A sign between two: what waits and binds as tight has both of its own by now. */
        private void join(int sign, int dueBehind) {
            writeWaiting(Sign.tightnessOf(sign));
            letWait(sign);
            due = dueBehind;
        }

        private void letWait(int sign) {
            if (waitingCount < WAITING) {
                waiting[waitingCount] = sign;
                waitingCount++;
            }
        }

        private void writeWaiting(int tightness) {
            while (waitingCount > 0 && Sign.tightnessOf(waiting[waitingCount - 1]) >= tightness) {
                waitingCount--;
                int sign = waiting[waitingCount];
                depth -= sign == Sign.NOT ? 1 : 0;
                write(sign, 0);
            }
        }

        private void write(int sign, int with) {
            if (codeLength < code.length) {
                code[codeLength] = sign + 32 * with;
                codeLength++;
            }
        }
    }

    /** A rule that was read: of each clause the code of its sum, then of its test, each sign behind what it joins. */
    static final class Rule {
        private final int clauses;
        private final int[] code;
        private final int[] sumStarts;
        private final int[] testStarts;

        Rule(int clauses, int[] code, int[] sumStarts, int[] testStarts) {
            this.clauses = clauses;
            this.code = code;
            this.sumStarts = sumStarts;
            this.testStarts = testStarts;
        }

        int minutesMeant(int[] words, long[] stack) {
            for (int c = 0; c < clauses; c++) {
                int test = testStarts[c];
                int behind = sumStarts[c + 1];
                if (test == behind || reckon(test, behind, words, stack) != 0) {
                    long sum = reckon(sumStarts[c], test, words, stack);
                    return (int) Math.max(MEANT_LEAST, Math.min(MEANT_MOST, sum));
                }
            }
            return 0;
        }

        private long reckon(int from, int to, int[] words, long[] stack) {
            int top = 0;
            for (int i = from; i < to && i < code.length; i++) {
                int sign = code[i] & 31;
                int with = code[i] >> 5;
                if (sign == Sign.NUMBER && top < stack.length) {
                    stack[top] = with;
                    top++;
                } else if (sign == Sign.WORD && top < stack.length && with < words.length) {
                    stack[top] = words[with];
                    top++;
                } else if (sign == Sign.NOT && top >= 1) {
                    stack[top - 1] = 1 - stack[top - 1];
                } else if (top >= 2) {
                    top--;
                    stack[top - 1] = joined(sign, stack[top - 1], stack[top]);
                }
            }
            return top > 0 ? stack[0] : 0;
        }

        private static long joined(int sign, long a, long b) {
            switch (sign) {
                case Sign.PLUS: return a + b;
                case Sign.MINUS: return a - b;
                case Sign.TIMES: return a * b;
                case Sign.BY: return b == 0 ? 0 : a / b;
                case Sign.REST: return b == 0 ? 0 : a % b;
                case Sign.BELOW: return a < b ? 1 : 0;
                case Sign.NOT_ABOVE: return a <= b ? 1 : 0;
                case Sign.EQUAL: return a == b ? 1 : 0;
                case Sign.NOT_BELOW: return a >= b ? 1 : 0;
                case Sign.ABOVE: return a > b ? 1 : 0;
                case Sign.AND: return a & b;
                default: return a | b;
            }
        }
    }

    /** How the last day of a course went: by meetings, by meetings and which of the two, by people. */
    static final class DayBook {
        /** Ahead of all that may be come at: with it nobody is held up. */
        static final int NO_END = -1000000;

        private final int[] order = new int[MEETINGS];
        private final int[] begins = new int[MEETINGS];
        private final int[] waits = new int[MEETINGS];
        private final int[] lates = new int[2 * MEETINGS];
        private final int[] costsOfEach = new int[2 * MEETINGS];
        private final int[] ends = new int[PEOPLE];
        /** How much more often over than early. */
        private final int[] guilt = new int[PEOPLE];

        void open(Town town, State state) {
            Arrays.fill(ends, NO_END);
            Arrays.fill(guilt, 0);
            for (int m = 0; m < town.meetings; m++) {
                int minute = state.cells[State.MINUTE + m];
                int at = m;
                while (at > 0 && state.cells[State.MINUTE + order[at - 1]] > minute) {
                    order[at] = order[at - 1];
                    at--;
                }
                order[at] = m;
            }
        }
    }

    /** Days that go on from a state, without a change to the one they were started from. */
    static final class Course {
        private static final int STACK = 64;

        private final State state = new State();
        private final DayBook book = new DayBook();
        private final int[] habits = new int[PEOPLE];
        private final int[] words = new int[Sign.WORDS];
        private final long[] stack = new long[STACK];
        private Town town = null;
        private Rule rule = null;
        private int least = 0;
        private int most = 0;
        private int leftOut = NONE;
        private int fixedMeeting = NONE;
        private int fixedFirst = 0;
        private int fixedSecond = 0;
        private boolean drawing = false;
        private int x = 0;
        /** Of all days since the start. */
        private int missed = 0;
        private int costs = 0;
        private int waited = 0;

        /** The state is to be put behind this; what else a course may be asked for, too. */
        void start(Town townOfCourse, Rule ruleInForce) {
            town = townOfCourse;
            rule = ruleInForce;
            System.arraycopy(town.habits, 0, habits, 0, PEOPLE);
            least = town.least;
            most = town.most;
            leftOut = NONE;
            fixedMeeting = NONE;
            drawing = false;
            missed = 0;
            costs = 0;
            waited = 0;
        }

        void fixMeant(int meeting, int first, int second) {
            fixedMeeting = meeting;
            fixedFirst = first;
            fixedSecond = second;
        }

        void drawFrom(int seed) {
            drawing = true;
            x = seed;
        }

        void goDays(int n) {
            for (int i = 0; i < n; i++) {
                goDay();
            }
        }

        void goDay() {
            if (town == null) {
                return;
            }
            book.open(town, state);
            for (int i = 0; i < town.meetings; i++) {
                if (book.order[i] != leftOut) {
                    goThrough(book.order[i]);
                }
            }
            for (int p = 0; p < town.people; p++) {
                int by = Math.max(-1, Math.min(1, book.guilt[p]));
                int clock = state.cells[State.CLOCK + p] + by;
                state.cells[State.CLOCK + p] = Math.max(-CLOCK_MOST, Math.min(CLOCK_MOST, clock));
            }
            state.cells[State.DAY] = Math.min(LAST_DAY, state.cells[State.DAY] + 1);
        }

        private void goThrough(int meeting) {
            int first = town.firsts[meeting];
            int second = town.seconds[meeting];
            // both are asked ahead of what the meeting changes
            int meantFirst = minutesMeant(first, second, meeting);
            int meantSecond = minutesMeant(second, first, meeting);
            if (meeting == fixedMeeting) {
                meantFirst = fixedFirst;
                meantSecond = fixedSecond;
            }
            if (drawing) {
                meantFirst = withDraw(meantFirst);
                meantSecond = withDraw(meantSecond);
            }
            int comesFirst = whenComes(first, meeting, meantFirst);
            int comesSecond = whenComes(second, meeting, meantSecond);
            int waitFirst = Math.max(0, Math.min(town.patience, comesSecond - comesFirst));
            int waitSecond = Math.max(0, Math.min(town.patience, comesFirst - comesSecond));
            if (Math.abs(comesFirst - comesSecond) > town.patience) {
                book.begins[meeting] = NONE;
                book.ends[first] = comesFirst + waitFirst;
                book.ends[second] = comesSecond + waitSecond;
                state.cells[State.MISSED + meeting]++;
                missed++;
            } else {
                book.begins[meeting] = comesFirst + waitFirst;
                book.ends[first] = book.begins[meeting] + town.lengths[meeting];
                book.ends[second] = book.ends[first];
                state.cells[State.HELD + meeting]++;
            }
            int minute = state.cells[State.MINUTE + meeting];
            book.waits[meeting] = waitFirst + waitSecond;
            charge(2 * meeting, first, comesFirst - minute, waitFirst);
            charge(2 * meeting + 1, second, comesSecond - minute, waitSecond);
        }

        /** What one has of a meeting: how late they were, what they waited, their fine. */
        private void charge(int side, int person, int late, int wait) {
            int fine = 0;
            if (!state.isExempt(person) && late < least) {
                fine = town.earlyFine;
                book.guilt[person]--;
            } else if (!state.isExempt(person) && late > most) {
                fine = town.overFine;
                book.guilt[person]++;
            }
            state.cells[State.LAST + person] = late;
            state.cells[State.FINES + person] += fine;
            state.cells[State.WAITED + person] += wait;
            book.lates[side] = late;
            book.costsOfEach[side] = fine + wait;
            costs += fine + wait;
            waited += wait;
        }

        private int whenComes(int person, int meeting, int meant) {
            int comes = state.cells[State.MINUTE + meeting] + meant - state.cells[State.CLOCK + person];
            return Math.max(comes, book.ends[person]);
        }

        private int withDraw(int meant) {
            x = (int) ((x * 1103515245L + 12345L) % 2147483648L);
            int drawn = meant + x / 65536 % 11 - 5;
            return Math.max(MEANT_LEAST, Math.min(MEANT_MOST, drawn));
        }

        private int minutesMeant(int person, int other, int meeting) {
            if (rule == null) {
                return habits[person];
            }
            int[] cells = state.cells;
            words[Sign.PERSON] = person;
            words[Sign.MEETING] = meeting;
            words[Sign.ASKED] = cells[State.MINUTE + meeting];
            words[Sign.HABIT] = habits[person];
            words[Sign.LEAST] = least;
            words[Sign.MOST] = most;
            words[Sign.OTHER] = other;
            words[Sign.THEIRS] = cells[State.LAST + other];
            words[Sign.MINE] = cells[State.LAST + person];
            words[Sign.FINED] = cells[State.FINES + person];
            words[Sign.WAITED] = cells[State.WAITED + person];
            words[Sign.DAY] = cells[State.DAY];
            words[Sign.CLOCK] = cells[State.CLOCK + person];
            words[Sign.EXEMPT] = state.isExempt(person) ? 1 : 0;
            return rule.minutesMeant(words, stack);
        }
    }

    /** Rows in which what several courses led to is kept, to be looked at together. */
    static final class Watch {
        private static final int STEPS = 7;
        static final int TWOS = STEPS * STEPS;
        private static final int LOG_DAYS = LAST_LOG_DAY + 1;
        /** The cells of a state that days come again by: all clocks, then all that was late last. */
        private static final int AGAIN_CELLS = State.FINES;

        private final int[] costsOfTwos = new int[2 * TWOS];
        private final int[] latesByHabit = new int[HABITS * LOG_DAYS];
        private final int[] statesOfDays = new int[DAYS_LOOKED_AT * AGAIN_CELLS];

        static int meantByFirst(int two) {
            return two / STEPS * 10;
        }

        static int meantBySecond(int two) {
            return two % STEPS * 10;
        }

        void keepTwo(int two, int costsOfFirst, int costsOfSecond) {
            costsOfTwos[2 * two] = costsOfFirst;
            costsOfTwos[2 * two + 1] = costsOfSecond;
        }

        boolean neitherParts(int two) {
            int first = two / STEPS;
            int second = two % STEPS;
            for (int other = 0; other < STEPS; other++) {
                if (costsOfTwos[2 * (other * STEPS + second)] < costsOfTwos[2 * two]
                        || costsOfTwos[2 * (first * STEPS + other) + 1] < costsOfTwos[2 * two + 1]) {
                    return false;
                }
            }
            return true;
        }

        void keepState(int day, State state) {
            System.arraycopy(state.cells, 0, statesOfDays, day * AGAIN_CELLS, AGAIN_CELLS);
        }

        /** The last day before this one that was begun alike, or NONE. */
        int lastAlike(int day) {
            for (int before = day - 1; before >= 0; before--) {
                int same = 0;
                while (same < AGAIN_CELLS && statesOfDays[before * AGAIN_CELLS + same]
                        == statesOfDays[day * AGAIN_CELLS + same]) {
                    same++;
                }
                if (same == AGAIN_CELLS) {
                    return before;
                }
            }
            return NONE;
        }

        void keepLate(int habit, int n, int late) {
            latesByHabit[habit * LOG_DAYS + n] = late;
        }

        boolean fitsLogs(int habit, int person, Whole whole) {
            for (int i = 0; i < whole.logCount; i++) {
                int late = latesByHabit[habit * LOG_DAYS + whole.logDay(i)];
                if (whole.logPerson(i) == person && late != whole.logLate(i)) {
                    return false;
                }
            }
            return true;
        }

        /** How many of the habits, as bits, are the most that were as late as one another behind a day. */
        int mostAlike(int habits, int n) {
            int most = 0;
            for (int one = 0; one < HABITS; one++) {
                int alike = 0;
                for (int other = 0; other < HABITS; other++) {
                    boolean asLate = latesByHabit[one * LOG_DAYS + n] == latesByHabit[other * LOG_DAYS + n];
                    alike += asLate && (habits >> other & 1) == 1 ? 1 : 0;
                }
                if ((habits >> one & 1) == 1) {
                    most = Math.max(most, alike);
                }
            }
            return most;
        }
    }
}
