import java.util.Random;

/** Texts that were drawn, read by the class and by the plain model: the same numbers and the same faults. */
public final class DrawnTextsTest {
    public static void main(String[] args) {
        DrawnTexts texts = new DrawnTexts(new Random(7));
        int[] faults = new int[5];
        int wrong = 0;
        LateAlways towns = new LateAlways();
        for (int i = 0; i < 40000 && wrong < 20; i++) {
            boolean isTown = i % 2 == 0;
            String text = isTown ? texts.town() : texts.rule();
            LateAlways late = isTown ? towns : new LateAlways();
            int got = isTown ? Texts.town(late, text) : Texts.rule(late, text);
            int want = answer(isTown, text);
            if (got != want) {
                wrong++;
                System.out.println("\"" + text + "\" answered " + got + ", the plain model " + want);
            }
            if (want < -2) {
                faults[(-2 - want - 1) % 8]++;
            }
        }
        for (int kind = 0; kind < 5; kind++) {
            if (faults[kind] < 10) {
                wrong++;
                System.out.println("too few faults of kind " + kind + ": " + faults[kind]);
            }
        }
        System.out.println(wrong == 0 ? "all drawn texts are read alike" : wrong + " are not");
        if (wrong != 0) {
            System.exit(1);
        }
    }

    private static int answer(boolean isTown, String text) {
        PlainLate plain = new PlainLate();
        plain.tape = text;
        return isTown ? plain.town() : plain.rule();
    }
}
