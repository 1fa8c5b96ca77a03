import java.util.Random;

/** Towns and rules that were drawn, most of them without a fault, some with one. */
final class DrawnTexts {
    private static final String[] WORDS = {"person", "meeting", "asked", "habit", "least", "most", "other",
        "theirs", "mine", "fined", "waited", "day", "clock", "exempt"};
    private static final String[] SIGNS = {"<", "<=", "=", ">=", ">"};
    private static final String STRAYS = " ;[]<>=+-*/%0123456789abtnolx,\u00e9\u0000L";

    private final Random random;

    DrawnTexts(Random random) {
        this.random = random;
    }

    String town() {
        StringBuilder text = new StringBuilder();
        int least = random.nextInt(4) == 0 ? random.nextInt(60) : random.nextInt(3) * 5;
        int most = Math.max(1, Math.min(60, least + random.nextInt(30)));
        text.append("town ").append(least).append(' ').append(most).append(' ').append(1 + random.nextInt(random.nextBoolean() ? 99 : 25));
        int people = random.nextInt(10) == 0 ? random.nextInt(2) : 2 + random.nextInt(4);
        for (int i = 0; i < people; i++) {
            text.append(gap()).append(";person ").append(random.nextInt(81)).append(' ');
            text.append(random.nextBoolean() ? 20 : random.nextInt(41));
        }
        if (random.nextInt(3) == 0) {
            text.append(";fine ").append(random.nextInt(10)).append(' ').append(random.nextInt(10));
        }
        int meetings = people < 2 ? 0 : random.nextInt(random.nextInt(3) == 0 ? 3 : 9);
        int span = random.nextBoolean() ? 601 : 150;
        for (int i = 0; i < meetings; i++) {
            int first = random.nextInt(people);
            int second = (first + 1 + random.nextInt(people - 1)) % people;
            text.append(";meet ").append(first).append(' ').append(second).append(' ');
            text.append(random.nextInt(span)).append(' ').append(1 + random.nextInt(60));
        }
        for (int i = 0; i < people && random.nextInt(3) == 0; i++) {
            text.append(";exempt ").append(random.nextInt(people)).append(gap());
        }
        if (random.nextInt(60) == 0 && people > 0) {
            text.append(";exempt0".repeat(20 + random.nextInt(18)));
        }
        return spoilt(text);
    }

    String rule() {
        StringBuilder text = new StringBuilder();
        int clauses = random.nextInt(15) == 0 ? 11 + random.nextInt(3) : 1 + random.nextInt(5);
        boolean manyValues = random.nextInt(12) == 0;
        for (int i = 0; i < clauses; i++) {
            text.append(i == 0 ? gap() : gap() + ";" + gap()).append("late ");
            sum(text, manyValues ? 15 : 2);
            if (random.nextInt(4) != 0 || i + 1 < clauses) {
                text.append(" if ");
                test(text, random.nextInt(20) == 0 ? 12 : 3, manyValues ? 4 : 1);
            }
        }
        return spoilt(text);
    }

    private void test(StringBuilder text, int deeper, int width) {
        int parts = 1 + random.nextInt(1 + width);
        for (int i = 0; i < parts; i++) {
            if (i > 0) {
                text.append(random.nextBoolean() ? " and " : " or ");
            }
            fact(text, deeper, width);
        }
    }

    private void fact(StringBuilder text, int deeper, int width) {
        int kind = deeper > 5 ? random.nextInt(2) : random.nextInt(5);
        if (deeper > 0 && kind == 0) {
            text.append("not ");
            fact(text, deeper - 1, width);
        } else if (deeper > 0 && kind == 1) {
            text.append('[').append(gap());
            test(text, deeper - 1, width);
            text.append(']');
        } else {
            sum(text, 1);
            text.append(gap()).append(SIGNS[random.nextInt(SIGNS.length)]).append(gap());
            sum(text, 1);
        }
    }

    private void sum(StringBuilder text, int width) {
        int values = 1 + random.nextInt(1 + width);
        for (int i = 0; i < values; i++) {
            if (i > 0) {
                text.append(gap()).append("+-*/%".charAt(random.nextInt(5))).append(gap());
            }
            if (random.nextInt(3) != 0) {
                text.append(WORDS[random.nextInt(WORDS.length)]);
            } else {
                text.append(random.nextInt(8) == 0 ? random.nextInt(100000) : random.nextInt(40));
            }
        }
    }

    private String gap() {
        return " ".repeat(random.nextInt(4) == 0 ? 1 + random.nextInt(2) : 0);
    }

    private String spoilt(StringBuilder text) {
        if (random.nextInt(4) == 0) {
            int at = random.nextInt(text.length() + 1);
            int kind = random.nextInt(4);
            if (kind == 0 && at < text.length()) {
                text.deleteCharAt(at);
            } else if (kind == 1 && at < text.length()) {
                text.setCharAt(at, STRAYS.charAt(random.nextInt(STRAYS.length())));
            } else if (kind == 2) {
                text.setLength(at);
            } else {
                text.insert(at, STRAYS.charAt(random.nextInt(STRAYS.length())));
            }
        }
        return text.length() > 400 ? text.substring(0, 400) : text.toString();
    }
}
