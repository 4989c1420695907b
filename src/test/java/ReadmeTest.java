import java.io.File;
import java.lang.reflect.Method;
import java.nio.file.Files;
import java.nio.file.Path;
import java.util.ArrayList;
import java.util.Arrays;
import java.util.List;
import java.util.Set;
import java.util.TreeSet;
import java.util.regex.Matcher;
import java.util.regex.Pattern;

/** README.md says how the class is used: its examples answer what it says, and it leaves no call out. */
public final class ReadmeTest {
    private static final Pattern CALL = Pattern.compile("(?:x\\.(\\w+)\\((.*)\\)|say\\(x, \"(.*)\"\\)); +// (-?\\d+)(:.*)?");
    private static final Pattern ARGUMENT = Pattern.compile("'(.)'|(-?\\d+)");
    private static final Pattern SIGNATURE = Pattern.compile("    public int (\\w+)\\((.*)\\) \\{");
    private static final Due T = new Due("readme");
    private static final Set<String> called = new TreeSet<>();
    private static LiveIndex x;

    public static void main(String[] args) throws Exception {
        List<String> lines = Files.readAllLines(Path.of("README.md"));
        T.sentence("the examples");
        for (List<String> block : javaBlocks(lines)) {
            // the helper of the other examples, told once: here it is Due.feed
            if (block.get(0).startsWith("static int say(")) continue;
            for (String line : block) run(line);
        }
        T.sentence("every call is told, with its parameters, and used in an example");
        String page = String.join("\n", lines);
        for (String line : Files.readAllLines(Path.of("src/main/java/LiveIndex.java"))) {
            Matcher m = SIGNATURE.matcher(line);
            if (m.matches()) tellsOf(page, m.group(1), m.group(2).replace("int ", ""));
        }
        T.sentence("every refusal is told");
        for (String row : new String[] {"| -1 | `NONE` |", "| -2 | `BAD` |", "| -3 | `STATE` |", "| -4 | `FULL` |",
            "| -6 | `DEAR` |", "| -11 | |", "| -12 | |", "| -13 | |", "| -14 | |", "| -100 - p | |"}) holds(row, page.contains(row));
        T.sentence("every test is told");
        for (String name : new File("src/test/java").list()) {
            if (name.endsWith("Test.java")) holds(name, page.contains("`" + name.replace(".java", "") + "`"));
        }
        T.end();
    }

    private static void holds(String what, boolean holds) {
        T.due(what, holds ? 1 : 0, 1);
    }

    private static void tellsOf(String page, String name, String parameters) {
        holds(name, page.contains("`" + name + "(" + parameters + ")`"));
        holds(name + " in an example", called.contains(name));
    }

    private static List<List<String>> javaBlocks(List<String> lines) {
        List<List<String>> blocks = new ArrayList<>();
        List<String> block = null;
        for (String line : lines) {
            if (line.equals("```java")) {
                block = new ArrayList<>();
                blocks.add(block);
            } else if (line.equals("```")) {
                block = null;
            } else if (block != null) {
                block.add(line);
            }
        }
        return blocks;
    }

    private static void run(String line) throws Exception {
        if (line.equals("LiveIndex x = new LiveIndex();")) {
            x = new LiveIndex();
            return;
        }
        Matcher m = CALL.matcher(line);
        holds("an example: " + line, m.matches());
        if (m.matches()) T.due(line, answer(m), Integer.parseInt(m.group(4)));
    }

    private static int answer(Matcher call) throws Exception {
        if (call.group(3) != null) return Due.feed(x, call.group(3).replace("\\\"", "\""));
        called.add(call.group(1));
        List<Object> arguments = new ArrayList<>();
        Matcher m = ARGUMENT.matcher(call.group(2));
        while (m.find()) arguments.add(m.group(1) != null ? m.group(1).charAt(0) : Integer.parseInt(m.group(2)));
        Class<?>[] types = new Class<?>[arguments.size()];
        Arrays.fill(types, int.class);
        Method method = LiveIndex.class.getMethod(call.group(1), types);
        return (Integer) method.invoke(x, arguments.toArray());
    }
}
