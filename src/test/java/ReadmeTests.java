import java.io.File;
import java.io.IOException;
import java.lang.reflect.Method;
import java.lang.reflect.Modifier;
import java.nio.file.Files;
import java.nio.file.Path;
import java.util.Arrays;
import java.util.HashMap;
import java.util.Map;
import java.util.regex.Matcher;
import java.util.regex.Pattern;

/** README.md's lines of Java are run as they stand there, so that it can't tell what does not hold. */
public final class ReadmeTests extends TestKit {
    private static final String NEW_OBJECT = "RuleTrees x = new RuleTrees()";
    private static final Pattern BLOCK = Pattern.compile("(?s)```java\n(.*?)```");
    private static final Pattern CALL = Pattern.compile("(?:int (\\w+) = )?x\\.(\\w+)\\((.*)\\)");
    private static final Pattern ANSWER = Pattern.compile("(-?\\d+)(:.*)?");
    private static final int FEWEST_LINES = 20;

    private final Map<String, Integer> names = new HashMap<>();
    private RuleTrees x = null;
    private int run = 0;

    private ReadmeTests() {
    }

    private void runBlocks(String readme) {
        Matcher block = BLOCK.matcher(readme);
        while (block.find()) {
            for (String line : block.group(1).split("\n")) {
                runLine(line);
            }
        }
        due("lines that were run, at least " + FEWEST_LINES, Math.min(run, FEWEST_LINES), FEWEST_LINES);
    }

    private void runLine(String line) {
        of("README.md, " + line.strip());
        String[] halves = line.split("//", 2);
        String code = halves[0].strip();
        if (code.equals(NEW_OBJECT + ";")) {
            x = new RuleTrees();
            return;
        }
        int answer = 0;
        for (String statement : code.split(";")) {
            answer = runCall(statement.strip());
        }
        Matcher told = ANSWER.matcher(halves.length < 2 ? "" : halves[1].strip());
        due("an answer that the line tells", told.matches() ? 1 : 0, 1);
        due(code, answer, Integer.parseInt(told.group(1)));
        run++;
    }

    private int runCall(String statement) {
        Matcher call = CALL.matcher(statement);
        if (!call.matches()) {
            throw new IllegalStateException("no call: " + statement);
        }
        int answer = answerOf(call.group(2), argumentsIn(call.group(3)));
        if (call.group(1) != null) {
            names.put(call.group(1), answer);
        }
        return answer;
    }

    private Object[] argumentsIn(String told) {
        if (told.isBlank()) {
            return new Object[0];
        }
        return Arrays.stream(told.split(",")).map(one -> valueOf(one.strip())).toArray();
    }

    /** A number, a name, or a number minus one of them. */
    private int valueOf(String told) {
        String[] parts = told.split(" - ");
        int value = simpleValue(parts[0]);
        return parts.length < 2 ? value : value - simpleValue(parts[1]);
    }

    private int simpleValue(String told) {
        return names.containsKey(told) ? names.get(told) : Integer.parseInt(told);
    }

    private int answerOf(String name, Object[] arguments) {
        Class<?>[] types = new Class<?>[arguments.length];
        Arrays.fill(types, int.class);
        try {
            return (Integer) RuleTrees.class.getMethod(name, types).invoke(x, arguments);
        } catch (ReflectiveOperationException thrown) {
            throw new IllegalStateException(thrown);
        }
    }

    private static void callsAreTold(String readme) {
        for (Method method : RuleTrees.class.getDeclaredMethods()) {
            if (Modifier.isPublic(method.getModifiers())) {
                of("README.md, a row of the table that names " + method.getName());
                boolean told = Pattern.compile("(?m)^\\|[^|]*`" + method.getName() + "\\(").matcher(readme).find();
                due("there", told ? 1 : 0, 1);
            }
        }
    }

    private static void testsAreTold(String readme) {
        String[] files = new File("src/test/java").list();
        for (String file : files == null ? new String[0] : files) {
            of("README.md, a word about " + file);
            due("there", readme.contains("`" + file.replace(".java", "") + "`") ? 1 : 0, 1);
        }
    }

    public static void main(String[] args) throws IOException {
        String readme = Files.readString(Path.of("README.md"));
        sentence("README.md", "How to use it", () -> new ReadmeTests().runBlocks(readme));
        sentence("README.md", "All calls", () -> callsAreTold(readme));
        sentence("README.md", "How to run its tests", () -> testsAreTold(readme));
        end();
    }
}
