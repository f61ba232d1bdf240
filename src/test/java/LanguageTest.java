import java.io.IOException;
import java.nio.file.Files;
import java.nio.file.Path;
import java.util.List;
import java.util.regex.Pattern;

/** What LANGUAGE.md forbids and a look at the text can find; it is run from the project's folder. */
public final class LanguageTest {
    private static final Path PROGRAM = Path.of("src/main/java/PuzzleRegistry.java");
    private static final int MOST_LINES = 60;
    private static final String[] FORBIDDEN = {"\\bpackage\\b", "->", "::", "\\bsynchronized\\b", "\\bassert\\b",
        "\\bfinally\\b", "\\bcatch\\b", "\\bgetMessage\\b", "\\bString\\.format\\b", "\\bMath\\.\\w+Exact\\b",
        "\\bSystem\\.(?!arraycopy)", "\\bThread\\b", "\\bRandom\\b", "\\bRandomAccess", "\\bObject\\b", "\\bprotected\\b",
        "\\bstatic \\{", "\\bvar\\b", "\\bhashCode\\b", "\\bequals\\b", "\\btoString\\b", "[^\\x00-\\x7f]", "\\t"};
    private static final List<String> IMPORTS = List.of("import java.util.Arrays;",
        "import java.util.NoSuchElementException;");

    public static void main(String[] args) throws IOException {
        Check check = new Check();
        List<String> lines = Files.readAllLines(PROGRAM);
        for (String pattern : FORBIDDEN) {
            check.due("lines with " + pattern, 0L, () -> count(lines, pattern));
        }
        for (String line : lines) {
            check.holds("imports: " + line, !line.startsWith("import") || IMPORTS.contains(line));
            check.holds("throws: " + line, !line.contains("throw new") || isWrittenOut(line));
        }
        check.due("static fields that are not final", 0L, () -> count(lines, "\\bstatic (?!final)[^(]*(=|;)"));
        check.holds("short methods", longestBlock(lines) <= MOST_LINES);
        check.finish();
    }

    private static long count(List<String> lines, String pattern) {
        Pattern found = Pattern.compile(pattern);
        return lines.stream().filter(line -> found.matcher(line).find()).count();
    }

    private static boolean isWrittenOut(String line) {
        return line.strip().matches("throw new (IllegalStateException|IllegalArgumentException"
            + "|IndexOutOfBoundsException|NoSuchElementException)\\(\"[^\"]*\"\\);");
    }

    /** A blank line stands between methods and nowhere inside one. */
    private static int longestBlock(List<String> lines) {
        int longest = 0;
        int block = 0;
        for (String line : lines) {
            block = line.isBlank() ? 0 : block + 1;
            longest = Math.max(longest, block);
        }
        return longest;
    }
}
