import java.io.IOException;
import java.nio.file.Files;
import java.nio.file.Path;
import java.util.List;
import java.util.regex.Matcher;
import java.util.regex.Pattern;

/** Some rules of LANGUAGE.md that can be seen from the text of the class. */
public final class LanguageTest {
    private static final String[] FORBIDDEN = {
        "->", "::", "\\bthrow\\b", "\\btry\\b", "\\bcatch\\b", "\\bfinally\\b", "\\bsynchronized\\b", "\\bassert\\b",
        "\\bpackage\\b", "\\bprotected\\b", "\\bdouble\\b", "\\bfloat\\b", "Exact\\(", "\\bBigInteger\\b", "\\bRandom\\b",
        "System\\.(?!arraycopy)", "Arrays\\.(?!copyOf|copyOfRange|fill)", "Integer\\.(?!compare|bitCount)",
        "Long\\.(?!compare)", "Math\\.", "\\bstatic\\s*\\{", "while \\(true\\)", "for \\(;;\\)"};
    private static final int MOST_LINES = 60;
    private static final int MOST_CLASSES = 12;
    private static final int MOST_PARAMETERS = 7;

    public static void main(String[] args) throws IOException {
        List<String> lines = Files.readAllLines(Path.of("src/main/java/PotentialBench.java"));
        int classes = 0;
        for (int i = 0; i < lines.size(); i++) {
            String code = lines.get(i).replaceAll("^\\s*(/\\*\\*|\\*|//).*", "");
            for (String pattern : FORBIDDEN) {
                Check.due("line " + (i + 1) + ": " + pattern, Pattern.compile(pattern).matcher(code).find(), false);
            }
            if (code.startsWith("import ")) {
                Check.due("line " + (i + 1) + ": import", code.equals("import java.util.Arrays;"), true);
            }
            if (code.contains(" static ") && !code.contains("(") && !code.contains(" class ")) {
                Check.due("line " + (i + 1) + ": static fields are final", code.contains(" final "), true);
            }
            classes += code.matches(".*\\bclass \\w+.*") ? 1 : 0;
            if (code.matches(" +[\\w\\[\\] ]+\\([\\w\\[\\], ]*\\) \\{") && !code.contains("=")) {
                method(lines, i);
            }
        }
        Check.due("classes: " + classes, classes <= MOST_CLASSES, true);
        Check.end("LanguageTest");
    }

    private static void method(List<String> lines, int start) {
        String head = lines.get(start);
        int indent = head.length() - head.stripLeading().length();
        int end = start;
        while (!lines.get(end).equals(" ".repeat(indent) + "}")) {
            end++;
        }
        Check.due(head.trim() + " is short", end - start < MOST_LINES, true);
        Matcher commas = Pattern.compile(",").matcher(head);
        int parameters = 1;
        while (commas.find()) {
            parameters++;
        }
        Check.due(head.trim() + " takes few", parameters <= MOST_PARAMETERS, true);
    }
}
