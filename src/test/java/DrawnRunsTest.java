import java.util.Random;

/** Calls that were drawn, on the class and on the plain model: both must answer alike. */
public final class DrawnRunsTest {
    private static final String[] NAMES = {"feed", "end", "town", "rule", "force", "person", "meeting", "day", "ask",
        "set", "let", "undo", "ahead", "today", "ends", "chain", "minute", "leave", "rests", "again", "law", "log",
        "habit", "door", "clocks", "pardon", "worth", "seed", "years", "count", "image", "back"};
    private static final int CALLS = 450;

    private final Random random;
    private final DrawnTexts texts;
    private final LateAlways late = new LateAlways();
    private final PlainLate plain = new PlainLate();
    private final StringBuilder told = new StringBuilder();
    private final int[] answers;
    /** In such a run texts come at the begin alone, so that one town goes on for long. */
    private final boolean oneTown;
    private boolean wrong = false;

    private DrawnRunsTest(long seed, int[] answers) {
        random = new Random(seed);
        texts = new DrawnTexts(random);
        this.answers = answers;
        oneTown = random.nextInt(3) != 0;
    }

    public static void main(String[] args) {
        int runs = args.length > 0 ? Integer.parseInt(args[0]) : 300;
        long from = args.length > 1 ? Long.parseLong(args[1]) : 1;
        int[] answers = new int[NAMES.length];
        int wrong = 0;
        for (long seed = from; seed < from + runs && wrong < 5; seed++) {
            DrawnRunsTest run = new DrawnRunsTest(seed, answers);
            run.go();
            if (run.wrong) {
                wrong++;
                System.out.println("run of seed " + seed + ":\n" + run.told);
            }
        }
        if (args.length > 2) {
            for (int i = 0; i < NAMES.length; i++) {
                System.out.println(NAMES[i] + " " + answers[i]);
            }
        }
        System.out.println(wrong == 0 ? "all drawn runs are alike" : wrong + " drawn runs are not alike");
        if (wrong != 0) {
            System.exit(1);
        }
    }

    private void go() {
        for (int i = 0; i < CALLS && !wrong; i++) {
            int kind = random.nextInt(NAMES.length + 4);
            if (oneTown && i > 5 && (kind == 2 || kind == 3 || kind == NAMES.length || kind == NAMES.length + 1)) {
                kind = 7;
            }
            if (i == 0 || kind == NAMES.length) {
                text(texts.town(), 2);
            } else if (i < 4 || kind == NAMES.length + 1) {
                text(texts.rule(), 3);
            } else if (kind == NAMES.length + 2) {
                call(4, near(rules()), 0, 0);
            } else if (kind == NAMES.length + 3) {
                call(7, 0, 0, 0);
            } else {
                call(kind);
            }
        }
    }

    private int rules() {
        return plain.rules.size();
    }

    private void text(String text, int kind) {
        told.append("text \"").append(text).append("\"\n");
        call(1, 0, 0, 0);
        for (int from = 0; from < text.length(); from += 20) {
            int a = Texts.four(text, from);
            int b = Texts.four(text, from + 4);
            int c = Texts.four(text, from + 8);
            int d = Texts.four(text, from + 12);
            int e = Texts.four(text, from + 16);
            compare("feed", 0, late.feed(a, b, c, d, e), plain.feed(a, b, c, d, e));
        }
        call(1, text.length(), 0, 0);
        call(kind, 0, 0, 0);
    }

    /** Mostly below n, at times out of it. */
    private int near(int n) {
        return random.nextInt(8) == 0 ? random.nextInt(n + 4) - 2 : random.nextInt(Math.max(1, n));
    }

    private int days(int most) {
        return random.nextInt(10) == 0 ? random.nextInt(most + 3) - 1 : 1 + random.nextInt(most);
    }

    private void call(int kind) {
        int person = near(plain.world().people.size());
        int meeting = near(plain.world().meetings.size());
        switch (NAMES[kind]) {
            case "feed" -> call(1, near(plain.tape.length()), 0, 0);
            case "end" -> call(kind, near(plain.tape.length()), 0, 0);
            case "town", "rule" -> text(kind == 2 ? texts.town() : texts.rule(), kind);
            case "force" -> call(kind, near(rules()), 0, 0);
            case "person" -> call(kind, person, near(7), 0);
            case "meeting" -> call(kind, meeting, near(6), 0);
            case "ask" -> call(kind, meeting, near(random.nextBoolean() ? 601 : 100), 0);
            case "set" -> call(kind, person, near(41) - 20, 0);
            case "let", "ends" -> call(kind, person, 0, 0);
            case "ahead" -> call(kind, person, random.nextInt(10) == 0 ? near(101) : near(10), near(3));
            case "today" -> call(kind, meeting, near(4), 0);
            case "chain", "leave", "again" -> call(kind, near(2), 0, 0);
            case "minute", "rests" -> call(kind, meeting, near(3), 0);
            case "law" -> call(kind, days(20), near(3), 0);
            case "log" -> log(person);
            case "habit", "door" -> call(kind, person, near(2), 0);
            case "clocks", "pardon" -> call(kind, days(20), near(2), 0);
            case "worth" -> call(kind, meeting, days(20), 0);
            case "seed" -> call(kind, random.nextInt(), 0, 0);
            case "years" -> call(kind, days(10), days(random.nextInt(5) == 0 ? 60 : 5), near(2));
            case "count" -> call(kind, near(15), 0, 0);
            case "image", "back" -> call(kind, near(4), 0, 0);
            default -> call(kind, 0, 0, 0);
        }
    }

    /** Often what was so by a habit that fits, so that some habits stay. */
    private void log(int person) {
        int n = near(31);
        int late = near(60);
        if (person >= 0 && person < plain.world().people.size() && n >= 0 && n <= 30 && random.nextInt(3) != 0) {
            var fitting = plain.fitting(person).values().iterator();
            late = fitting.hasNext() ? fitting.next().get(n) : late;
        }
        call(21, random.nextInt(6) == 0 ? -1 : n, person, random.nextInt(20) == 0 ? -101 + random.nextInt(2) * 1102 : late);
    }

    private void call(int kind, int a, int b, int c) {
        String name = NAMES[kind] + "(" + a + ", " + b + ", " + c + ")";
        switch (NAMES[kind]) {
            case "end" -> compare(name, kind, late.end(a), plain.end(a));
            case "town" -> compare(name, kind, late.town(), plain.town());
            case "rule" -> compare(name, kind, late.rule(), plain.rule());
            case "force" -> compare(name, kind, late.force(a), plain.force(a));
            case "person" -> compare(name, kind, late.person(a, b), plain.person(a, b));
            case "meeting" -> compare(name, kind, late.meeting(a, b), plain.meeting(a, b));
            case "day" -> compare(name, kind, late.day(), plain.day());
            case "ask" -> compare(name, kind, late.ask(a, b), plain.ask(a, b));
            case "set" -> compare(name, kind, late.set(a, b), plain.set(a, b));
            case "let" -> compare(name, kind, late.let(a), plain.let(a));
            case "undo" -> compare(name, kind, late.undo(), plain.undo());
            case "ahead" -> compare(name, kind, late.ahead(a, b, c), plain.ahead(a, b, c));
            case "today" -> compare(name, kind, late.today(a, b), plain.today(a, b));
            case "ends" -> compare(name, kind, late.ends(a), plain.ends(a));
            case "chain" -> compare(name, kind, late.chain(a), plain.chain(a));
            case "minute" -> compare(name, kind, late.minute(a, b), plain.minute(a, b));
            case "leave" -> compare(name, kind, late.leave(a), plain.leave(a));
            case "rests" -> compare(name, kind, late.rests(a, b), plain.rests(a, b));
            case "again" -> compare(name, kind, late.again(a), plain.again(a));
            case "law" -> compare(name, kind, late.law(a, b), plain.law(a, b));
            case "log" -> compare(name, kind, late.log(a, b, c), plain.log(a, b, c));
            case "habit" -> compare(name, kind, late.habit(a, b), plain.habit(a, b));
            case "door" -> compare(name, kind, late.door(a, b), plain.door(a, b));
            case "clocks" -> compare(name, kind, late.clocks(a, b), plain.clocks(a, b));
            case "pardon" -> compare(name, kind, late.pardon(a, b), plain.pardon(a, b));
            case "worth" -> compare(name, kind, late.worth(a, b), plain.worth(a, b));
            case "seed" -> compare(name, kind, late.seed(a), plain.seed(a));
            case "years" -> compare(name, kind, late.years(a, b, c), plain.years(a, b, c));
            case "count" -> compare(name, kind, late.count(a), plain.count(a));
            case "image" -> compare(name, kind, late.image(a), plain.image(a));
            case "back" -> compare(name, kind, late.back(a), plain.back(a));
            default -> throw new IllegalStateException(name);
        }
    }

    private void compare(String name, int kind, int got, int want) {
        answers[kind]++;
        told.append(name).append(" = ").append(got).append('\n');
        if (got != want) {
            wrong = true;
            told.append("   but the plain model answers ").append(want).append('\n');
        }
    }
}
