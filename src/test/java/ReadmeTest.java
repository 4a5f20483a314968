import java.lang.reflect.Method;
import java.nio.charset.StandardCharsets;
import java.nio.file.Files;
import java.nio.file.Path;
import java.util.HashMap;
import java.util.Map;
import java.util.regex.Matcher;
import java.util.regex.Pattern;

/** Runs the lines of README.md that call a court, and compares each answer with the one that stands behind it. */
public final class ReadmeTest {
    private static final String MADE = "ClauseCourt court = new ClauseCourt();";
    private static final Pattern CALL = Pattern.compile("court\\.(\\w+)\\((.*)\\); +// (-?\\w+).*");
    private static final Due due = new Due("ReadmeTest");
    private static final Map<String, Method> METHODS = new HashMap<>();

    public static void main(String[] args) throws Exception {
        for (Method method : ClauseCourt.class.getMethods()) {
            METHODS.put(method.getName(), method);
        }
        ClauseCourt court = null;
        boolean inCode = false;
        int calls = 0;
        for (String line : Files.readString(Path.of("README.md"), StandardCharsets.US_ASCII).split("\n")) {
            if (line.startsWith("```")) {
                inCode = line.equals("```java");
            } else if (inCode && line.equals(MADE)) {
                court = new ClauseCourt();
            } else if (inCode) {
                runLine(court, line);
                calls++;
            }
        }
        due.is("README.md has calls", 1, calls > 30 ? 1 : 0);
        due.end();
    }

    private static void runLine(ClauseCourt court, String line) throws Exception {
        Matcher call = CALL.matcher(line);
        boolean known = call.matches() && METHODS.containsKey(call.group(1));
        due.is("a line that can be run: " + line, 1, known ? 1 : 0);
        if (known) {
            Method method = METHODS.get(call.group(1));
            Number got = (Number) method.invoke(court, valuesOf(call.group(2)));
            due.is(line, answerOf(call.group(3)), got.longValue());
        }
    }

    private static Object[] valuesOf(String text) {
        String[] parts = text.isEmpty() ? new String[0] : text.split(", ");
        Object[] values = new Object[parts.length];
        for (int i = 0; i < parts.length; i++) {
            values[i] = valueOf(parts[i]);
        }
        return values;
    }

    private static Object valueOf(String part) {
        if (part.equals("true") || part.equals("false")) {
            return part.equals("true");
        }
        return part.endsWith("L") ? (Object) Long.decode(part.substring(0, part.length() - 1)) : (Object) Integer.decode(part);
    }

    private static long answerOf(String text) throws Exception {
        return text.matches("[A-Z]+") ? ClauseCourt.class.getField(text).getInt(null) : Long.parseLong(text);
    }
}
