/** Feeds texts to the tape, as the tests write them. */
final class Texts {
    private Texts() {
    }

    /** Twenty bytes a call, with noughts behind the text, which end then cuts off. */
    static void feed(LateAlways late, String text) {
        int before = late.count(14);
        for (int from = 0; from < text.length(); from += 20) {
            late.feed(four(text, from), four(text, from + 4), four(text, from + 8),
                    four(text, from + 12), four(text, from + 16));
        }
        late.end(before + text.length());
    }

    static int town(LateAlways late, String text) {
        feed(late, text);
        return late.town();
    }

    static int rule(LateAlways late, String text) {
        feed(late, text);
        return late.rule();
    }

    static int four(String text, int from) {
        int number = 0;
        for (int i = from; i < from + 4; i++) {
            number = number << 8 | (i < text.length() ? text.charAt(i) & 255 : 0);
        }
        return number;
    }
}
