import java.util.ArrayList;
import java.util.Collections;
import java.util.Comparator;
import java.util.HashMap;
import java.util.List;
import java.util.Map;
import java.util.Set;
import java.util.TreeMap;

/**
 * The document once more, written apart from the class and in other ways
 * (recursive descent, trees, copies of all at each act), so that both can be
 * compared by calls that were drawn.
 */
final class PlainLate {
    // ---- texts

    static final class Fault extends RuntimeException {
        private static final long serialVersionUID = 1L;
        final int number;

        Fault(int place, int kind) {
            super("fault", null, false, false);
            number = 1 + 8 * place + kind;
        }
    }

    interface Sum {
        long of(Map<String, Long> words);
    }

    interface Test {
        boolean holds(Map<String, Long> words);
    }

    record Clause(Sum sum, Test test) {
    }

    static class Scan {
        final String text;
        int at = 0;

        Scan(String text) {
            this.text = text;
        }

        char peek() {
            while (at < text.length() && text.charAt(at) == ' ') {
                at++;
            }
            return at < text.length() ? text.charAt(at) : (char) 999;
        }

        boolean atEnd() {
            return peek() == (char) 999;
        }

        String peekWord() {
            peek();
            int to = at;
            while (to < text.length() && text.charAt(to) >= 'a' && text.charAt(to) <= 'z') {
                to++;
            }
            return text.substring(at, to);
        }

        boolean accept(String word) {
            if (peekWord().equals(word)) {
                at += word.length();
                return true;
            }
            return false;
        }

        Fault here(int kind) {
            peek();
            return new Fault(at, kind);
        }

        int number(int from, int to) {
            if (!Character.isDigit(peek()) || peek() > '9') {
                throw here(0);
            }
            int behind = at;
            while (behind < text.length() && text.charAt(behind) >= '0' && text.charAt(behind) <= '9') {
                behind++;
            }
            if (behind - at > 5) {
                throw here(1);
            }
            int value = Integer.parseInt(text.substring(at, behind));
            if (value < from || value > to) {
                throw here(1);
            }
            at = behind;
            return value;
        }
    }

    static final class RuleScan extends Scan {
        static final Set<String> WORDS = Set.of("person", "meeting", "asked", "habit", "least", "most", "other",
                "theirs", "mine", "fined", "waited", "day", "clock", "exempt");
        int parts = 0;

        RuleScan(String text) {
            super(text);
        }

        List<Clause> all() {
            List<Clause> clauses = new ArrayList<>();
            while (true) {
                if (!peekWord().equals("late")) {
                    throw here(0);
                }
                if (clauses.size() == 12) {
                    throw here(4);
                }
                accept("late");
                Sum sum = sum();
                Test test = null;
                if (accept("if")) {
                    test = test(0);
                }
                clauses.add(new Clause(sum, test));
                if (atEnd()) {
                    return clauses;
                }
                if (peek() != ';') {
                    throw here(0);
                }
                at++;
            }
        }

        Test test(int depth) {
            Test left = part(depth);
            while (accept("or")) {
                Test a = left;
                Test b = part(depth);
                left = w -> a.holds(w) || b.holds(w);
            }
            return left;
        }

        Test part(int depth) {
            Test left = fact(depth);
            while (accept("and")) {
                Test a = left;
                Test b = fact(depth);
                left = w -> a.holds(w) && b.holds(w);
            }
            return left;
        }

        Test fact(int depth) {
            if (peekWord().equals("not") || peek() == '[') {
                if (depth == 10) {
                    throw here(2);
                }
                if (accept("not")) {
                    Test a = fact(depth + 1);
                    return w -> !a.holds(w);
                }
                at++;
                Test a = test(depth + 1);
                if (peek() != ']') {
                    throw here(0);
                }
                at++;
                return a;
            }
            Sum a = sum();
            String sign = sign();
            Sum b = sum();
            return switch (sign) {
                case "<" -> w -> a.of(w) < b.of(w);
                case "<=" -> w -> a.of(w) <= b.of(w);
                case "=" -> w -> a.of(w) == b.of(w);
                case ">=" -> w -> a.of(w) >= b.of(w);
                default -> w -> a.of(w) > b.of(w);
            };
        }

        String sign() {
            for (String sign : new String[] {"<=", ">=", "<", "=", ">"}) {
                peek();
                if (text.startsWith(sign, at)) {
                    if (parts == 60) {
                        throw here(3);
                    }
                    parts++;
                    at += sign.length();
                    return sign;
                }
            }
            throw here(0);
        }

        Sum sum() {
            Sum left = term();
            while (peek() == '+' || peek() == '-') {
                boolean plus = text.charAt(at++) == '+';
                Sum a = left;
                Sum b = term();
                left = plus ? w -> a.of(w) + b.of(w) : w -> a.of(w) - b.of(w);
            }
            return left;
        }

        Sum term() {
            Sum left = value();
            while (peek() == '*' || peek() == '/' || peek() == '%') {
                char sign = text.charAt(at++);
                Sum a = left;
                Sum b = value();
                if (sign == '*') {
                    left = w -> a.of(w) * b.of(w);
                } else if (sign == '/') {
                    left = w -> b.of(w) == 0 ? 0 : a.of(w) / b.of(w);
                } else {
                    left = w -> b.of(w) == 0 ? 0 : a.of(w) % b.of(w);
                }
            }
            return left;
        }

        Sum value() {
            String word = peekWord();
            if (!word.isEmpty()) {
                if (!WORDS.contains(word)) {
                    throw here(0);
                }
                countValue();
                accept(word);
                return w -> w.get(word);
            }
            int before = at;
            int number = number(0, 99999);
            int behind = at;
            at = before;
            countValue();
            at = behind;
            return w -> number;
        }

        void countValue() {
            if (parts == 60) {
                throw here(3);
            }
            parts++;
        }
    }

    // ---- the town

    static final class Person {
        int habit;
        int clock;
        boolean exempt;
        int last;
        int fines;
        int waited;

        Person copy() {
            Person p = new Person();
            p.habit = habit;
            p.clock = clock;
            p.exempt = exempt;
            p.last = last;
            p.fines = fines;
            p.waited = waited;
            return p;
        }
    }

    static final class Meeting {
        int number;
        int first;
        int second;
        int minute;
        int length;
        int held;
        int missed;

        Meeting copy() {
            Meeting m = new Meeting();
            m.number = number;
            m.first = first;
            m.second = second;
            m.minute = minute;
            m.length = length;
            m.held = held;
            m.missed = missed;
            return m;
        }
    }

    static final class World {
        boolean told;
        int least;
        int most;
        int patience;
        int early = 1;
        int over = 1;
        int day;
        List<Person> people = new ArrayList<>();
        List<Meeting> meetings = new ArrayList<>();

        World copy() {
            World w = new World();
            w.told = told;
            w.least = least;
            w.most = most;
            w.patience = patience;
            w.early = early;
            w.over = over;
            w.day = day;
            people.forEach(p -> w.people.add(p.copy()));
            meetings.forEach(m -> w.meetings.add(m.copy()));
            return w;
        }

        int fines() {
            return people.stream().mapToInt(p -> p.fines).sum();
        }

        int waited() {
            return people.stream().mapToInt(p -> p.waited).sum();
        }

        int costs() {
            return fines() + waited();
        }

        int missed() {
            return meetings.stream().mapToInt(m -> m.missed).sum();
        }

        List<Integer> face() {
            List<Integer> face = new ArrayList<>();
            for (Person p : people) {
                face.add(p.clock);
                face.add(p.last);
            }
            return face;
        }
    }

    record Told(int begins, int lateFirst, int lateSecond, int waited, int costFirst, int costSecond) {
    }

    /** What is other than ever in a day. */
    static final class Other {
        int fixed = -1;
        int fixedFirst;
        int fixedSecond;
        long[] x = null;
    }

    record Log(int n, int person, int late) {
    }

    static final class All {
        World begin = new World();
        World world = new World();
        List<World> before = new ArrayList<>();
        List<Log> logs = new ArrayList<>();
        long x = 0;
        int force = -1;

        All copy() {
            All a = new All();
            a.begin = begin;
            a.world = world.copy();
            a.before.addAll(before);
            a.logs.addAll(logs);
            a.x = x;
            a.force = force;
            return a;
        }
    }

    String tape = "";
    final List<List<Clause>> rules = new ArrayList<>();
    All all = new All();
    final All[] images = new All[4];
    final Map<Integer, Told> toldOfDay = new HashMap<>();
    final Map<Integer, Integer> endOfDay = new TreeMap<>();

    World world() {
        return all.world;
    }

    static World readTown(String text) {
        Scan s = new Scan(text);
        World w = new World();
        boolean fine = false;
        for (int clause = 1;; clause++) {
            String word = s.peekWord();
            if (!List.of("town", "person", "exempt", "meet", "fine").contains(word)) {
                throw s.here(0);
            }
            if (clause > 40 || word.equals("town") && clause > 1 || !word.equals("town") && clause == 1
                    || word.equals("person") && w.people.size() == 5
                    || word.equals("meet") && w.meetings.size() == 8 || word.equals("fine") && fine) {
                throw s.here(4);
            }
            s.accept(word);
            if (word.equals("town")) {
                w.least = s.number(0, 59);
                w.most = s.number(Math.max(1, w.least), 60);
                w.patience = s.number(1, 99);
            } else if (word.equals("person")) {
                Person p = new Person();
                p.habit = s.number(0, 80) - 20;
                p.clock = s.number(0, 40) - 20;
                p.last = p.habit;
                w.people.add(p);
            } else if (word.equals("exempt")) {
                w.people.get(s.number(0, w.people.size() - 1)).exempt = true;
            } else if (word.equals("fine")) {
                fine = true;
                w.early = s.number(0, 9);
                w.over = s.number(0, 9);
            } else {
                Meeting m = new Meeting();
                m.number = w.meetings.size();
                m.first = s.number(0, w.people.size() - 1);
                s.peek();
                int place = s.at;
                m.second = s.number(0, w.people.size() - 1);
                if (m.first == m.second) {
                    throw new Fault(place, 1);
                }
                m.minute = s.number(0, 600);
                m.length = s.number(1, 60);
                w.meetings.add(m);
            }
            if (s.atEnd()) {
                w.told = true;
                return w;
            }
            if (s.peek() != ';') {
                throw s.here(0);
            }
            s.at++;
        }
    }

    int means(World w, Meeting m, int me, int other) {
        Person p = w.people.get(me);
        if (all.force < 0) {
            return p.habit;
        }
        Map<String, Long> words = new HashMap<>();
        words.put("person", (long) me);
        words.put("meeting", (long) m.number);
        words.put("asked", (long) m.minute);
        words.put("habit", (long) p.habit);
        words.put("least", (long) w.least);
        words.put("most", (long) w.most);
        words.put("other", (long) other);
        words.put("theirs", (long) w.people.get(other).last);
        words.put("mine", (long) p.last);
        words.put("fined", (long) p.fines);
        words.put("waited", (long) p.waited);
        words.put("day", (long) w.day);
        words.put("clock", (long) p.clock);
        words.put("exempt", p.exempt ? 1L : 0L);
        for (Clause c : rules.get(all.force)) {
            if (c.test() == null || c.test().holds(words)) {
                return (int) Math.max(-30, Math.min(120, c.sum().of(words)));
            }
        }
        return 0;
    }

    static int draw(long[] x, int meant) {
        x[0] = (x[0] * 1103515245L + 12345L) & 0x7fffffffL;
        return Math.max(-30, Math.min(120, meant + (int) (x[0] / 65536 % 11) - 5));
    }

    void dayOf(World w, Other other) {
        toldOfDay.clear();
        endOfDay.clear();
        List<Meeting> line = new ArrayList<>(w.meetings);
        line.sort(Comparator.<Meeting>comparingInt(m -> m.minute).thenComparingInt(m -> m.number));
        Map<Integer, Integer> guilt = new HashMap<>();
        for (Meeting m : line) {
            int[] who = {m.first, m.second};
            int[] meant = {means(w, m, m.first, m.second), means(w, m, m.second, m.first)};
            if (m.number == other.fixed) {
                meant = new int[] {other.fixedFirst, other.fixedSecond};
            }
            if (other.x != null) {
                meant[0] = draw(other.x, meant[0]);
                meant[1] = draw(other.x, meant[1]);
            }
            int[] comes = new int[2];
            int[] cost = new int[2];
            for (int i = 0; i < 2; i++) {
                comes[i] = m.minute + meant[i] - w.people.get(who[i]).clock;
                if (endOfDay.containsKey(who[i])) {
                    comes[i] = Math.max(comes[i], endOfDay.get(who[i]));
                }
            }
            int early = comes[0] <= comes[1] ? 0 : 1;
            int later = 1 - early;
            int begins = -1;
            int wait;
            if (comes[later] - comes[early] > w.patience) {
                wait = w.patience;
                endOfDay.put(who[early], comes[early] + w.patience);
                endOfDay.put(who[later], comes[later]);
                m.missed++;
            } else {
                wait = comes[later] - comes[early];
                begins = comes[later];
                endOfDay.put(who[0], begins + m.length);
                endOfDay.put(who[1], begins + m.length);
                m.held++;
            }
            w.people.get(who[early]).waited += wait;
            cost[early] += wait;
            for (int i = 0; i < 2; i++) {
                Person p = w.people.get(who[i]);
                p.last = comes[i] - m.minute;
                if (!p.exempt && p.last < w.least) {
                    p.fines += w.early;
                    cost[i] += w.early;
                    guilt.merge(who[i], -1, Integer::sum);
                } else if (!p.exempt && p.last > w.most) {
                    p.fines += w.over;
                    cost[i] += w.over;
                    guilt.merge(who[i], 1, Integer::sum);
                }
            }
            toldOfDay.put(m.number, new Told(begins, comes[0] - m.minute, comes[1] - m.minute, wait, cost[0], cost[1]));
        }
        guilt.forEach((p, g) -> {
            Person person = w.people.get(p);
            person.clock = Math.max(-20, Math.min(20, person.clock + Integer.signum(g)));
        });
        w.day++;
    }

    World go(World from, int n) {
        World w = from.copy();
        for (int i = 0; i < n; i++) {
            dayOf(w, new Other());
        }
        return w;
    }

    World without(int meeting) {
        World w = world().copy();
        w.meetings.removeIf(m -> m.number == meeting);
        return w;
    }

    int costsIn(World from, int n) {
        return go(from, n).costs() - from.costs();
    }

    // ---- the face

    int feed(int a, int b, int c, int d, int e) {
        if (tape.length() > 380) {
            return -1;
        }
        StringBuilder more = new StringBuilder(tape);
        for (int n : new int[] {a, b, c, d, e}) {
            for (int i = 3; i >= 0; i--) {
                more.append((char) (n >> 8 * i & 255));
            }
        }
        tape = more.toString();
        return tape.length();
    }

    int end(int n) {
        if (n < 0 || n > tape.length()) {
            return -1;
        }
        tape = tape.substring(0, n);
        return n;
    }

    int town() {
        String text = tape;
        tape = "";
        try {
            World w = readTown(text);
            all.begin = w;
            all.world = w.copy();
            all.before.clear();
            all.logs.clear();
            return w.meetings.size();
        } catch (Fault f) {
            return -2 - f.number;
        }
    }

    int rule() {
        if (rules.size() == 6) {
            return -1;
        }
        String text = tape;
        tape = "";
        try {
            rules.add(new RuleScan(text).all());
            return rules.size() - 1;
        } catch (Fault f) {
            return -2 - f.number;
        }
    }

    int force(int rule) {
        if (rule < -1 || rule >= rules.size()) {
            return -2;
        }
        int was = all.force;
        all.force = rule;
        return was;
    }

    boolean noPerson(int p) {
        return p < 0 || p >= world().people.size();
    }

    boolean noMeeting(int m) {
        return m < 0 || m >= world().meetings.size();
    }

    boolean noWhat(int what, int most) {
        return what < 0 || what > most;
    }

    boolean noDays(int n, int most) {
        return n < 1 || n > most || !world().told;
    }

    int person(int person, int what) {
        if (noPerson(person) || noWhat(what, 6)) {
            return -1000;
        }
        Person p = world().people.get(person);
        int bits = 0;
        for (Meeting m : world().meetings) {
            bits += m.first == person || m.second == person ? (int) Math.pow(2, m.number) : 0;
        }
        return new int[] {p.habit, p.clock, p.exempt ? 1 : 0, p.last, p.fines, p.waited, bits}[what];
    }

    int meeting(int meeting, int what) {
        if (noMeeting(meeting) || noWhat(what, 5)) {
            return -1;
        }
        Meeting m = world().meetings.get(meeting);
        return new int[] {m.first, m.second, m.minute, m.length, m.held, m.missed}[what];
    }

    void beforeAct() {
        all.before.add(world().copy());
        if (all.before.size() > 20) {
            all.before.remove(0);
        }
    }

    int day() {
        if (!world().told || world().day == 999) {
            return -1;
        }
        beforeAct();
        int was = world().missed();
        dayOf(world(), new Other());
        return world().missed() - was;
    }

    int ask(int meeting, int minute) {
        if (noMeeting(meeting) || minute < 0 || minute > 600 || world().meetings.get(meeting).minute == minute) {
            return -1;
        }
        beforeAct();
        int was = world().meetings.get(meeting).minute;
        world().meetings.get(meeting).minute = minute;
        return was;
    }

    int set(int person, int clock) {
        if (noPerson(person) || clock < -20 || clock > 20 || world().people.get(person).clock == clock) {
            return -1000;
        }
        beforeAct();
        int was = world().people.get(person).clock;
        world().people.get(person).clock = clock;
        return was;
    }

    int let(int person) {
        if (noPerson(person)) {
            return -1;
        }
        beforeAct();
        Person p = world().people.get(person);
        p.exempt = !p.exempt;
        return p.exempt ? 1 : 0;
    }

    int undo() {
        if (all.before.isEmpty()) {
            return -2;
        }
        all.world = all.before.remove(all.before.size() - 1).copy();
        return all.before.size();
    }

    int ahead(int person, int n, int what) {
        if (noPerson(person) || n < 0 || n > 100 || noWhat(what, 2)) {
            return -1000;
        }
        Person p = go(world(), n).people.get(person);
        return what == 0 ? p.clock : what == 1 ? p.fines : p.waited;
    }

    int today(int meeting, int what) {
        if (noMeeting(meeting) || noWhat(what, 3)) {
            return -1000;
        }
        go(world(), 1);
        Told t = toldOfDay.get(meeting);
        return new int[] {t.begins, t.lateFirst, t.lateSecond, t.waited}[what];
    }

    int ends(int person) {
        if (noPerson(person)) {
            return -1000;
        }
        go(world(), 1);
        return endOfDay.getOrDefault(person, -1);
    }

    int chain(int what) {
        if (!world().told || noWhat(what, 1)) {
            return -1000;
        }
        go(world(), 1);
        if (endOfDay.isEmpty()) {
            return -1;
        }
        int when = Collections.max(endOfDay.values());
        int who = endOfDay.keySet().stream().filter(p -> endOfDay.get(p) == when).findFirst().get();
        return what == 0 ? who : when;
    }

    int minute(int meeting, int what) {
        if (noMeeting(meeting) || noWhat(what, 2)) {
            return -1;
        }
        List<int[]> ways = new ArrayList<>();
        for (int by = -60; by <= 60; by++) {
            World w = world().copy();
            int minute = w.meetings.get(meeting).minute + by;
            if (minute >= 0 && minute <= 600) {
                w.meetings.get(meeting).minute = minute;
                World behind = go(w, 1);
                ways.add(new int[] {minute, behind.missed() - w.missed(), behind.costs() - w.costs()});
            }
        }
        ways.sort(Comparator.<int[]>comparingInt(a -> a[1]).thenComparingInt(a -> a[2]).thenComparingInt(a -> a[0]));
        return ways.get(0)[what];
    }

    int leave(int what) {
        if (!world().told || noWhat(what, 1)) {
            return -1;
        }
        return world().meetings.stream().map(m -> new int[] {m.number, costsToday(without(m.number))})
                .min(Comparator.comparingInt(a -> a[1])).orElse(new int[] {-2, -2})[what];
    }

    int costsToday(World w) {
        return costsIn(w, 1);
    }

    int rests(int meeting, int what) {
        if (noMeeting(meeting) || noWhat(what, 2)) {
            return -1;
        }
        int[][] first = new int[7][7];
        int[][] second = new int[7][7];
        for (int a = 0; a < 7; a++) {
            for (int b = 0; b < 7; b++) {
                Other other = new Other();
                other.fixed = meeting;
                other.fixedFirst = 10 * a;
                other.fixedSecond = 10 * b;
                dayOf(world().copy(), other);
                first[a][b] = toldOfDay.get(meeting).costFirst;
                second[a][b] = toldOfDay.get(meeting).costSecond;
            }
        }
        List<int[]> rests = new ArrayList<>();
        for (int a = 0; a < 7; a++) {
            for (int b = 0; b < 7; b++) {
                int leastFirst = 1000;
                int leastSecond = 1000;
                for (int i = 0; i < 7; i++) {
                    leastFirst = Math.min(leastFirst, first[i][b]);
                    leastSecond = Math.min(leastSecond, second[a][i]);
                }
                if (first[a][b] == leastFirst && second[a][b] == leastSecond) {
                    rests.add(new int[] {0, 10 * a, 10 * b});
                }
            }
        }
        return what == 0 ? rests.size() : rests.isEmpty() ? -2 : rests.get(0)[what];
    }

    int again(int what) {
        if (!world().told || noWhat(what, 1)) {
            return -1;
        }
        List<List<Integer>> seen = new ArrayList<>();
        World w = world().copy();
        for (int i = 0; i < 100; i++) {
            int before = seen.lastIndexOf(w.face());
            if (before >= 0) {
                return what == 0 ? w.day : i - before;
            }
            seen.add(w.face());
            dayOf(w, new Other());
        }
        return -2;
    }

    int law(int n, int what) {
        if (noDays(n, 20) || noWhat(what, 2)) {
            return -1;
        }
        int[] best = null;
        for (int least = 0; least <= 50; least += 10) {
            for (int most = 10; most <= 60; most += 10) {
                World w = world().copy();
                w.least = least;
                w.most = most;
                int costs = costsIn(w, n);
                if (most >= least && (best == null || costs < best[2])) {
                    best = new int[] {least, most, costs};
                }
            }
        }
        return best[what];
    }

    int log(int n, int person, int late) {
        if (n == -1) {
            all.logs.clear();
            return 0;
        }
        if (n < 0 || n > 30 || noPerson(person) || late < -100 || late > 1000 || all.logs.size() == 10) {
            return -2;
        }
        all.logs.add(new Log(n, person, late));
        return all.logs.size();
    }

    /** Of each habit that fits how late they were last behind each day. */
    Map<Integer, List<Integer>> fitting(int person) {
        Map<Integer, List<Integer>> fitting = new TreeMap<>();
        for (int habit = -20; habit <= 60; habit += 10) {
            World w = all.begin.copy();
            w.people.get(person).habit = habit;
            w.people.get(person).last = habit;
            List<Integer> lates = new ArrayList<>();
            for (int i = 0; i <= 30; i++) {
                dayOf(w, new Other());
                lates.add(w.people.get(person).last);
            }
            if (all.logs.stream().allMatch(l -> l.person != person || lates.get(l.n) == l.late)) {
                fitting.put(habit, lates);
            }
        }
        return fitting;
    }

    int habit(int person, int what) {
        if (noPerson(person) || noWhat(what, 1)) {
            return -1000;
        }
        Map<Integer, List<Integer>> fitting = fitting(person);
        return what == 0 ? fitting.size() : fitting.isEmpty() ? -100 : fitting.keySet().iterator().next();
    }

    int door(int person, int what) {
        if (noPerson(person) || noWhat(what, 1)) {
            return -1;
        }
        Map<Integer, List<Integer>> fitting = fitting(person);
        if (fitting.isEmpty()) {
            return -2;
        }
        int[] best = {-1, 100};
        for (int n = 0; n <= 30; n++) {
            Map<Integer, Integer> groups = new HashMap<>();
            for (List<Integer> lates : fitting.values()) {
                groups.merge(lates.get(n), 1, Integer::sum);
            }
            int most = Collections.max(groups.values());
            if (most < best[1]) {
                best = new int[] {n, most};
            }
        }
        return best[what];
    }

    int clocks(int n, int what) {
        if (noDays(n, 20) || noWhat(what, 1)) {
            return -2;
        }
        int[] best = {-1, costsIn(world(), n)};
        for (int p = 0; p < world().people.size(); p++) {
            World w = world().copy();
            w.people.get(p).clock = 0;
            if (costsIn(w, n) < best[1]) {
                best = new int[] {p, costsIn(w, n)};
            }
        }
        return best[what];
    }

    int pardon(int n, int what) {
        if (noDays(n, 20) || noWhat(what, 1)) {
            return -2;
        }
        int was = world().waited();
        int[] best = {-1, go(world(), n).waited() - was};
        for (int p = 0; p < world().people.size(); p++) {
            World w = world().copy();
            if (w.people.get(p).exempt) {
                continue;
            }
            w.people.get(p).exempt = true;
            int waited = go(w, n).waited() - was;
            if (waited < best[1]) {
                best = new int[] {p, waited};
            }
        }
        return best[what];
    }

    int worth(int meeting, int n) {
        if (noMeeting(meeting) || noDays(n, 20)) {
            return -1000000;
        }
        return costsIn(world(), n) - costsIn(without(meeting), n);
    }

    int seed(int x) {
        if (x < 0) {
            return -1;
        }
        int was = (int) all.x;
        all.x = x;
        return was;
    }

    int years(int m, int n, int what) {
        if (m < 1 || m > 10 || noDays(n, 60) || noWhat(what, 1)) {
            return -1;
        }
        Other other = new Other();
        other.x = new long[] {all.x};
        int[] sum = new int[2];
        for (int i = 0; i < m; i++) {
            World w = world().copy();
            for (int k = 0; k < n; k++) {
                dayOf(w, other);
            }
            sum[0] += w.missed() - world().missed();
            sum[1] += w.costs() - world().costs();
        }
        return sum[what];
    }

    int count(int what) {
        if (noWhat(what, 14)) {
            return -1;
        }
        World w = world();
        int exempt = 0;
        for (int p = 0; p < w.people.size(); p++) {
            exempt += w.people.get(p).exempt ? (int) Math.pow(2, p) : 0;
        }
        return new int[] {w.least, w.most, w.patience, w.people.size(), w.meetings.size(), rules.size(), all.force,
            w.day, exempt, w.fines(), w.waited(), all.logs.size(), all.before.size(), (int) all.x, tape.length()}[what];
    }

    int image(int k) {
        if (k < 0 || k > 3) {
            return -1;
        }
        images[k] = all.copy();
        return world().day;
    }

    int back(int k) {
        if (k < 0 || k > 3 || images[k] == null) {
            return -1;
        }
        all = images[k].copy();
        return world().day;
    }
}
