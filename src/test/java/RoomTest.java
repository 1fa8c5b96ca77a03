import java.lang.management.ManagementFactory;
import java.lang.reflect.Array;
import java.lang.reflect.Field;
import java.lang.reflect.Modifier;
import java.util.ArrayDeque;
import java.util.Collections;
import java.util.Deque;
import java.util.IdentityHashMap;
import java.util.Set;

/** What an object keeps, and what its dearest calls make, so that many objects find room together. */
public final class RoomTest {
    private static final String TOWN = "town 5 20 15;person 30 20;person 45 22;person 20 20;person 9 9;person 50 31;"
            + "meet 0 1 60 30;meet 1 2 70 20;meet 0 2 130 10;meet 3 4 9 9;meet 1 4 99 5;meet 0 4 300 60;meet 2 3 200 9;"
            + "meet 1 3 250 9";
    private static final String RULE = "late 1" + "+day".repeat(56) + " if 1=1";
    /** Of 600,000 objects and 7,300,000 fields and elements, a hundredth and less. */
    private static final int OBJECTS = 300;
    private static final int CELLS = 15000;
    /** The machine itself may make a little beside. */
    private static final long BYTES_BESIDE = 20000;

    private static int wrong = 0;

    private RoomTest() {
    }

    private static void atMost(String what, long got, long most) {
        if (got > most) {
            wrong++;
            System.out.println(what + ": " + got + ", at most " + most + " are due");
        }
    }

    private static LateAlways full() {
        LateAlways x = new LateAlways();
        Texts.town(x, TOWN);
        for (int i = 0; i < 6; i++) {
            Texts.rule(x, RULE);
        }
        x.force(5);
        for (int k = 0; k < 4; k++) {
            x.image(k);
        }
        return x;
    }

    private static void whatIsKept() throws IllegalAccessException {
        Set<Object> seen = Collections.newSetFromMap(new IdentityHashMap<>());
        Deque<Object> open = new ArrayDeque<>();
        long cells = 0;
        LateAlways x = full();
        seen.add(x);
        open.add(x);
        while (!open.isEmpty()) {
            Object one = open.remove();
            if (one.getClass().isArray()) {
                cells += Array.getLength(one);
                for (int i = 0; i < Array.getLength(one) && !one.getClass().getComponentType().isPrimitive(); i++) {
                    look(Array.get(one, i), seen, open);
                }
                continue;
            }
            for (Field field : one.getClass().getDeclaredFields()) {
                if (!Modifier.isStatic(field.getModifiers())) {
                    field.setAccessible(true);
                    cells++;
                    if (!field.getType().isPrimitive()) {
                        look(field.get(one), seen, open);
                    }
                }
            }
        }
        atMost("objects kept", seen.size(), OBJECTS);
        atMost("fields and elements kept", cells, CELLS);
    }

    private static void look(Object one, Set<Object> seen, Deque<Object> open) {
        if (one != null && seen.add(one)) {
            open.add(one);
        }
    }

    private static int allQuestionsAndActs(LateAlways x) {
        int sum = x.ahead(0, 100, 0) + x.today(0, 0) + x.ends(0) + x.chain(0) + x.minute(0, 0) + x.leave(0);
        sum += x.rests(0, 0) + x.again(0) + x.law(20, 0) + x.habit(0, 0) + x.door(0, 0) + x.clocks(20, 0);
        sum += x.pardon(20, 0) + x.worth(0, 20) + x.years(10, 60, 0) + x.log(0, 0, 0) + x.log(-1, 0, 0);
        sum += x.day() + x.ask(0, 5) + x.set(0, 5) + x.let(0) + x.undo() + x.image(0) + x.back(0);
        sum += Texts.town(x, "town 5 4") + Texts.rule(x, RULE) + x.end(0) + x.town() + x.back(1);
        return sum;
    }

    /** But for a new object, a rule that is kept and an image that is made first, no call makes an object. */
    private static void whatCallsMake() {
        var threads = (com.sun.management.ThreadMXBean) ManagementFactory.getThreadMXBean();
        long self = Thread.currentThread().getId();
        LateAlways x = full();
        long sum = allQuestionsAndActs(x);
        long before = threads.getThreadAllocatedBytes(self);
        for (int i = 0; i < 10; i++) {
            sum += allQuestionsAndActs(x);
        }
        long made = threads.getThreadAllocatedBytes(self) - before;
        atMost("bytes made by calls (" + sum + ")", made, BYTES_BESIDE);
    }

    public static void main(String[] args) throws IllegalAccessException {
        whatIsKept();
        whatCallsMake();
        System.out.println(wrong == 0 ? "there is room" : wrong + " are too many");
        if (wrong != 0) {
            System.exit(1);
        }
    }
}
