import java.lang.reflect.Constructor;
import java.lang.reflect.Field;
import java.lang.reflect.Method;
import java.lang.reflect.Modifier;
import java.nio.file.Files;
import java.nio.file.Path;
import java.util.ArrayList;
import java.util.List;
import java.util.Set;
import java.util.TreeSet;
import java.util.regex.Matcher;
import java.util.regex.Pattern;

/** The public face, and the rules of LANGUAGE.md that can be seen without understanding the code. */
public final class LanguageTest {
    private static final Set<String> FACE = Set.of("feed5", "end1", "town0", "rule0", "force1", "person2", "meeting2",
            "day0", "ask2", "set2", "let1", "undo0", "ahead3", "today2", "ends1", "chain1", "minute2", "leave1",
            "rests2", "again1", "law2", "log3", "habit2", "door2", "clocks2", "pardon2", "worth2", "seed1", "years3",
            "count1", "image1", "back1");
    private static final Set<String> LIBRARY = Set.of("System.arraycopy", "Arrays.fill", "Arrays.copyOf", "Math.max",
            "Math.min", "Math.abs", "Integer.bitCount");
    private static final String[] FORBIDDEN = {"\\bthrow\\b", "\\btry\\b", "\\bcatch\\b", "\\bsynchronized\\b",
        "\\bassert\\b", "->", "::", "\\bprotected\\b", "\\bhashCode\\b", "\\btoString\\b", "Exact\\b", "\\bpackage\\b",
        "\\bdouble\\b", "\\bfloat\\b", "\\bvar\\b", "instanceof", "\\bstatic \\{"};

    private static int wrong = 0;

    private static void blame(String what) {
        wrong++;
        System.out.println(what);
    }

    private static void face() {
        Set<String> names = new TreeSet<>();
        Set<String> publicNames = new TreeSet<>();
        for (Method method : LateAlways.class.getDeclaredMethods()) {
            if (Modifier.isPublic(method.getModifiers())) {
                names.add(method.getName() + method.getParameterCount());
                publicNames.add(method.getName());
                checkSignature(method);
            } else if (!Modifier.isPrivate(method.getModifiers()) && !method.isSynthetic()) {
                blame("not private: " + method);
            }
        }
        if (!names.equals(FACE)) {
            blame("the face is " + names);
        }
        for (Class<?> inside : LateAlways.class.getDeclaredClasses()) {
            checkInside(inside, publicNames);
        }
        for (Method method : LateAlways.class.getDeclaredMethods()) {
            if (Modifier.isPrivate(method.getModifiers()) && publicNames.contains(method.getName())) {
                blame("named as a public one: " + method);
            }
        }
        for (Field field : LateAlways.class.getDeclaredFields()) {
            boolean isNone = field.getName().equals("NONE") && Modifier.isPublic(field.getModifiers());
            if (!isNone && !Modifier.isPrivate(field.getModifiers())) {
                blame("not private: " + field);
            }
        }
        Constructor<?>[] constructors = LateAlways.class.getDeclaredConstructors();
        if (constructors.length != 1 || constructors[0].getParameterCount() != 0
                || !Modifier.isPublic(constructors[0].getModifiers())
                || !Modifier.isFinal(LateAlways.class.getModifiers())) {
            blame("the constructor, or the class, is not as told");
        }
    }

    private static void checkSignature(Method method) {
        boolean good = method.getReturnType() == int.class && !Modifier.isStatic(method.getModifiers());
        for (Class<?> type : method.getParameterTypes()) {
            good &= type == int.class;
        }
        if (!good) {
            blame("not as told: " + method);
        }
    }

    private static void checkInside(Class<?> inside, Set<String> publicNames) {
        int modifiers = inside.getModifiers();
        if (!Modifier.isStatic(modifiers) || Modifier.isPublic(modifiers) || Modifier.isProtected(modifiers)) {
            blame("not static, or too open: " + inside);
        }
        int fields = 0;
        for (Field field : inside.getDeclaredFields()) {
            boolean isStatic = Modifier.isStatic(field.getModifiers());
            fields += isStatic ? 0 : 1;
            if (isStatic && !Modifier.isFinal(field.getModifiers())) {
                blame("static and not final: " + field);
            }
        }
        if (fields > 20) {
            blame(inside + " has " + fields + " fields");
        }
        for (Method method : inside.getDeclaredMethods()) {
            if (method.getParameterCount() > 7 || publicNames.contains(method.getName())) {
                blame("too many parameters, or named as a public one: " + method);
            }
        }
    }

    private static void source() throws Exception {
        String text = Files.readString(Path.of("src/main/java/LateAlways.java"));
        String code = text.replaceAll("(?s)/\\*.*?\\*/", "").replaceAll("//[^\n]*", "").replaceAll("\"[^\"\n]*\"", "\"\"");
        for (String pattern : FORBIDDEN) {
            if (Pattern.compile(pattern).matcher(code).find()) {
                blame("stands in the source: " + pattern);
            }
        }
        Matcher calls = Pattern.compile("\\b(System|Arrays|Math|Integer|Long|String|Character)\\.(\\w+)").matcher(code);
        while (calls.find()) {
            if (!LIBRARY.contains(calls.group())) {
                blame("not of the library: " + calls.group());
            }
        }
        methodsAreShort(code);
        int classes = code.split("\\bclass ").length - 1;
        if (classes > 12) {
            blame("classes: " + classes);
        }
    }

    private static void methodsAreShort(String code) {
        List<String> lines = new ArrayList<>(List.of(code.split("\n", -1)));
        Pattern head = Pattern.compile("^( {4}| {8})(public|private|static|int|void|boolean|long|String|Rule)\\b.*\\) \\{$");
        for (int i = 0; i < lines.size(); i++) {
            Matcher matcher = head.matcher(lines.get(i));
            if (matcher.matches()) {
                int end = i;
                while (end < lines.size() && !lines.get(end).equals(matcher.group(1) + "}")) {
                    end++;
                }
                if (end - i > 60) {
                    blame("too long: " + lines.get(i));
                }
            }
        }
    }

    public static void main(String[] args) throws Exception {
        face();
        source();
        System.out.println(wrong == 0 ? "the rules are kept" : wrong + " rules are not kept");
        if (wrong != 0) {
            System.exit(1);
        }
    }
}
