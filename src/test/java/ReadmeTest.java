import java.io.IOException;
import java.lang.reflect.Method;
import java.nio.file.Files;
import java.nio.file.Path;
import java.util.regex.Matcher;
import java.util.regex.Pattern;

/** The first example of README.md: its calls answer what it says. */
public final class ReadmeTest {
    private static final Pattern CALL = Pattern.compile("x\\.(\\w+)\\(([^)]*)\\); +// (-?\\d+): ");
    private static final Pattern WORDS = Pattern.compile("new int\\[\\] \\{([^}]*)\\}");
    private static final int CALLS = 13;

    public static void main(String[] args) throws IOException, ReflectiveOperationException {
        String text = Files.readString(Path.of("README.md"));
        int from = text.indexOf("```java");
        int to = text.indexOf("```", from + 1);
        Check.due("there is an example", from >= 0 && to > from, true);
        PotentialBench x = new PotentialBench();
        int calls = 0;
        for (String line : text.substring(Math.max(from, 0), Math.max(to, 0)).split("\n")) {
            Matcher words = WORDS.matcher(line);
            if (words.find()) {
                for (String word : words.group(1).split(", ")) {
                    x.word(0, Integer.parseInt(word));
                }
            }
            Matcher call = CALL.matcher(line);
            if (call.find()) {
                calls++;
                Check.due(call.group(), answer(x, call.group(1), call.group(2)), Long.parseLong(call.group(3)));
            }
        }
        Check.due("calls", calls, CALLS);
        Check.end("ReadmeTest");
    }

    private static long answer(PotentialBench x, String name, String given) throws ReflectiveOperationException {
        String[] texts = given.isEmpty() ? new String[0] : given.split(", ");
        for (Method method : PotentialBench.class.getMethods()) {
            if (method.getName().equals(name) && method.getParameterCount() == texts.length) {
                Object[] values = new Object[texts.length];
                for (int i = 0; i < texts.length; i++) {
                    long value = texts[i].equals("f") ? 0 : Long.parseLong(texts[i]);
                    values[i] = method.getParameterTypes()[i] == long.class ? (Object) value : (Object) (int) value;
                }
                return ((Number) method.invoke(x, values)).longValue();
            }
        }
        throw new NoSuchMethodException(name);
    }
}
