import java.io.IOException;
import java.lang.reflect.Method;
import java.lang.reflect.Modifier;
import java.nio.file.Files;
import java.nio.file.Path;
import java.util.HashMap;
import java.util.Map;
import java.util.regex.Matcher;
import java.util.regex.Pattern;

/** The example of README.md answers what its comments say, and README.md names each call of the face. */
public final class ReadmeTest {
    private static final Path README = Path.of("README.md");
    private static final String EXAMPLE_BEGINS = "```java\n";
    private static final String EXAMPLE_ENDS = "```";
    private static final String OBJECT = "PuzzleRegistry registry = new PuzzleRegistry();";
    /** A variable if there is one, the call, its arguments, then the answer that is due. */
    private static final Pattern LINE =
        Pattern.compile("(?:int (\\w+) = )?registry\\.(\\w+)\\(([^)]*)\\); +// (throws \\w+|-?\\w+)(: .+)?");

    private final Check check = new Check();
    private final PuzzleRegistry program = new PuzzleRegistry();
    private final Map<String, Integer> variables = new HashMap<>();

    public static void main(String[] args) throws IOException {
        ReadmeTest test = new ReadmeTest();
        String text = Files.readString(README);
        test.followExample(text);
        test.findCalls(text);
        test.check.finish();
    }

    private void followExample(String text) {
        int start = text.indexOf(EXAMPLE_BEGINS) + EXAMPLE_BEGINS.length();
        String[] lines = text.substring(start, text.indexOf(EXAMPLE_ENDS, start)).split("\n");
        check.due("the example's first line", OBJECT, () -> lines[0]);
        for (int at = 1; at < lines.length; at++) {
            follow(lines[at]);
        }
        check.holds("the example has calls", lines.length > 1);
    }

    private void follow(String line) {
        Matcher parts = LINE.matcher(line);
        if (!parts.matches()) {
            check.holds("a call with its answer: " + line, false);
            return;
        }
        String answer = new Step(parts.group(2), arguments(parts.group(3))).on(program);
        check.due(line, parts.group(4).replace("throws ", "throws."), () -> answer);
        if (parts.group(1) != null && !answer.startsWith("throws.")) {
            variables.put(parts.group(1), Integer.valueOf(answer));
        }
    }

    private int[] arguments(String text) {
        String[] names = text.isEmpty() ? new String[0] : text.split(", ");
        int[] values = new int[names.length];
        for (int at = 0; at < names.length; at++) {
            Integer known = variables.get(names[at]);
            values[at] = known == null ? Integer.parseInt(names[at]) : known;
        }
        return values;
    }

    private void findCalls(String text) {
        for (Method method : PuzzleRegistry.class.getDeclaredMethods()) {
            if (Modifier.isPublic(method.getModifiers())) {
                check.holds("README tells of " + method.getName(), text.contains("`" + method.getName() + "`"));
            }
        }
    }
}
