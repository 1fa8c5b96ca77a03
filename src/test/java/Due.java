import java.lang.reflect.Method;
import java.lang.reflect.Modifier;
import java.util.ArrayList;
import java.util.Arrays;
import java.util.Comparator;
import java.util.List;
import java.util.Set;
import java.util.TreeSet;

/** Tells each answer that is not the one that is due, under the name of the test that asked for it. */
final class Due {
    private static String test = "";
    private static int wrong = 0;
    private static final Set<String> PROMISES_TESTED = new TreeSet<>();

    private Due() {
    }

    static void is(String call, int got, int want) {
        if (got != want) {
            wrong++;
            System.out.println(test + ": " + call + " answered " + got + ", due is " + want);
        }
    }

    /** Each test is a static method whose name begins with its promise: p01_.. to p33_.., so that none is left out. */
    static void runTestsOf(Class<?> tests) throws ReflectiveOperationException {
        Method[] methods = tests.getDeclaredMethods();
        Arrays.sort(methods, Comparator.comparing(Method::getName));
        for (Method method : methods) {
            if (method.getName().matches("p\\d\\d_\\w+") && Modifier.isStatic(method.getModifiers())) {
                test = method.getName();
                PROMISES_TESTED.add(test.substring(0, 3));
                method.invoke(null);
            }
        }
    }

    static void eachPromiseHasATest() {
        test = "tests";
        for (int promise = 1; promise <= 33; promise++) {
            is("promise " + promise, PROMISES_TESTED.contains(String.format("p%02d", promise)) ? 1 : 0, 1);
        }
    }

    static int wrong() {
        return wrong;
    }

    /** A new object in a town. */
    static LateAlways in(String town) {
        LateAlways x = new LateAlways();
        is("there is a town: " + town, Texts.town(x, town) >= 0 ? 1 : 0, 1);
        return x;
    }

    /** A new object in a town, with a rule in force. */
    static LateAlways in(String town, String rule) {
        LateAlways x = in(town);
        is("rule " + rule, Texts.rule(x, rule), 0);
        is("force(0)", x.force(0), -1);
        return x;
    }

    interface Calls {
        void on(LateAlways x);
    }

    /**
     * Two objects with the same calls before; one has some calls more. If nothing has happened by these, all that can
     * be asked, undone, read from the tape and gone back to is the same.
     */
    static void nothingHappens(String what, Calls before, Calls more) {
        LateAlways one = new LateAlways();
        before.on(one);
        more.on(one);
        LateAlways other = new LateAlways();
        before.on(other);
        List<Integer> got = allThatCanBeSeen(one);
        List<Integer> want = allThatCanBeSeen(other);
        is(what + ": as many answers behind it", got.size(), want.size());
        for (int i = 0; i < Math.min(got.size(), want.size()); i++) {
            is(what + ": answer " + i + " of all behind it", got.get(i), want.get(i));
        }
    }

    /** Some 420 calls, which change the object. */
    private static List<Integer> allThatCanBeSeen(LateAlways x) {
        List<Integer> seen = new ArrayList<>();
        addCounts(x, seen, 15);
        for (int what = 0; what < 7; what++) {
            for (int p = 0; p < 5; p++) {
                seen.add(x.person(p, what));
            }
        }
        for (int what = 0; what < 6; what++) {
            for (int m = 0; m < 8; m++) {
                seen.add(x.meeting(m, what));
            }
        }
        for (int p = 0; p < 5; p++) {
            seen.add(x.habit(p, 0));
            seen.add(x.habit(p, 1));
        }
        seen.add(x.years(2, 3, 1));
        int read = x.rule();
        seen.add(read == -1 ? x.town() : read);
        for (int rule = -1; rule < 6; rule++) {
            seen.add(x.force(rule));
            seen.add(x.today(0, 1));
        }
        for (int i = 0; i < 20; i++) {
            seen.add(x.undo());
            seen.add(x.count(7));
            seen.add(x.count(8));
            seen.add(x.person(0, 1));
            seen.add(x.person(0, 3));
            seen.add(x.meeting(0, 2));
        }
        for (int k = 0; k < 4; k++) {
            seen.add(x.back(k));
            addCounts(x, seen, 14);
        }
        return seen;
    }

    private static void addCounts(LateAlways x, List<Integer> seen, int below) {
        for (int what = 0; what < below; what++) {
            seen.add(x.count(what));
        }
    }
}
