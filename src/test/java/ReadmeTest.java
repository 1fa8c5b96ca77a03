import java.lang.reflect.Method;
import java.lang.reflect.Modifier;
import java.nio.file.Files;
import java.nio.file.Path;
import java.util.ArrayList;
import java.util.List;
import java.util.Set;
import java.util.TreeSet;
import java.util.regex.Matcher;
import java.util.regex.Pattern;

/** What README.md shows of calls is what the class answers, and its way to run the tests is the one of .ci/run. */
public final class ReadmeTest {
    private static final String MAKES_AN_OBJECT = "LateAlways x = new LateAlways();";
    private static final Pattern CALL = Pattern.compile("x\\.(\\w+)\\(([-\\d, ]*)\\); *// (-?\\d+)(:.*)?");
    private static final Pattern TEXT = Pattern.compile("Texts\\.(town|rule)\\(x, \"([^\"]*)\"\\); *// (-?\\d+)(:.*)?");
    /** An object's calls beyond these are free. */
    private static final int CALLS_OF_AN_OBJECT = 512;

    private static final Set<String> SHOWN = new TreeSet<>();
    private static LateAlways late = null;
    private static int calls = 0;
    private static int wrong = 0;

    private ReadmeTest() {
    }

    private static void blame(String what) {
        wrong++;
        System.out.println(what);
    }

    /** The blocks of Java, each as its lines. */
    private static List<List<String>> blocksOf(List<String> page) {
        List<List<String>> blocks = new ArrayList<>();
        List<String> block = null;
        for (String line : page) {
            if (line.equals("```java")) {
                block = new ArrayList<>();
                blocks.add(block);
            } else if (line.startsWith("```")) {
                block = null;
            } else if (block != null) {
                block.add(line);
            }
        }
        return blocks;
    }

    private static void checkLine(String line) throws ReflectiveOperationException {
        Matcher call = CALL.matcher(line);
        Matcher text = TEXT.matcher(line);
        if (line.equals(MAKES_AN_OBJECT)) {
            late = new LateAlways();
            calls = 0;
        } else if (late != null && call.matches()) {
            calls++;
            compare(line, answerOf(call.group(1), call.group(2)), call.group(3));
        } else if (late != null && text.matches()) {
            calls += 3 + (text.group(2).length() + 19) / 20;
            boolean isTown = text.group(1).equals("town");
            SHOWN.add(text.group(1));
            compare(line, isTown ? Texts.town(late, text.group(2)) : Texts.rule(late, text.group(2)), text.group(3));
        } else {
            blame("README.md shows what can't be looked at: " + line);
        }
        if (calls > CALLS_OF_AN_OBJECT) {
            blame("README.md goes beyond the calls of an object: " + line);
        }
    }

    private static int answerOf(String name, String told) throws ReflectiveOperationException {
        SHOWN.add(name);
        String[] numbers = told.isBlank() ? new String[0] : told.split(", *");
        Class<?>[] types = new Class<?>[numbers.length];
        Object[] values = new Object[numbers.length];
        for (int i = 0; i < numbers.length; i++) {
            types[i] = int.class;
            values[i] = Integer.valueOf(numbers[i]);
        }
        return (Integer) LateAlways.class.getMethod(name, types).invoke(late, values);
    }

    private static void compare(String line, int got, String want) {
        if (got != Integer.parseInt(want)) {
            blame("README.md: " + line + " answered " + got);
        }
    }

    private static void everyCallIsShown() {
        for (Method method : LateAlways.class.getDeclaredMethods()) {
            if (Modifier.isPublic(method.getModifiers()) && !SHOWN.contains(method.getName())) {
                blame("README.md does not show " + method.getName());
            }
        }
    }

    /** A method that is shown is one of Texts.java, line by line. */
    private static void standsInTexts(List<String> block) throws Exception {
        StringBuilder inside = new StringBuilder();
        for (String line : block) {
            inside.append("    ").append(line).append('\n');
        }
        if (!Files.readString(Path.of("src/test/java/Texts.java")).contains(inside)) {
            blame("README.md shows what does not stand in Texts.java: " + block.get(0));
        }
    }

    private static void runsAsTheScriptDoes(List<String> page) throws Exception {
        Path script = Path.of(".ci/run");
        String text = Files.readString(script)
                .replace("\"$out/classes\"", "out/classes")
                .replace("\"$source\"", "src/main/java/LateAlways.java")
                .replace("\"$test\"", "src/test/java/PromisesTest.java")
                .replace("\"$name\"", "PromisesTest");
        int commands = 0;
        for (String line : page) {
            if (line.startsWith("    javac ") || line.startsWith("    java ")) {
                commands++;
                if (!text.contains("! " + line.trim() + ";")) {
                    blame(".ci/run does not go this way: " + line.trim());
                }
            }
        }
        if (commands != 2 || !page.contains("    .ci/run") || !Files.isExecutable(script)) {
            blame("README.md does not tell how to run the tests");
        }
    }

    private static void everyTestIsNamed(List<String> page) throws Exception {
        String text = String.join("\n", page);
        try (var files = Files.newDirectoryStream(Path.of("src/test/java"), "*Test.java")) {
            for (Path file : files) {
                String name = file.getFileName().toString().replace(".java", "");
                if (!text.contains("`" + name + "`")) {
                    blame("README.md does not name " + name);
                }
            }
        }
    }

    public static void main(String[] args) throws Exception {
        List<String> page = Files.readAllLines(Path.of("README.md"));
        for (List<String> block : blocksOf(page)) {
            if (!block.isEmpty() && block.get(0).startsWith("static ")) {
                standsInTexts(block);
                continue;
            }
            for (String line : block) {
                checkLine(line);
            }
        }
        everyCallIsShown();
        runsAsTheScriptDoes(page);
        everyTestIsNamed(page);
        System.out.println(wrong == 0 ? "the page shows what is so" : wrong + " things on the page are not so");
        if (wrong != 0) {
            System.exit(1);
        }
    }
}
