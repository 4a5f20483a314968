import java.io.IOException;
import java.nio.charset.StandardCharsets;
import java.nio.file.DirectoryStream;
import java.nio.file.Files;
import java.nio.file.Path;
import java.util.Set;
import java.util.TreeSet;
import java.util.regex.Matcher;
import java.util.regex.Pattern;

/** Each promise of the document is named by a test of a sentence of its own, so that none is left out when the document grows. */
public final class PromisesTest {
    private static final Due due = new Due("PromisesTest");

    public static void main(String[] args) throws IOException {
        Set<String> tested = new TreeSet<>();
        try (DirectoryStream<Path> files = Files.newDirectoryStream(Path.of("src/test/java"), "*EdgesTest.java")) {
            for (Path file : files) {
                addFound(tested, "edge\\.of\\(\"(\\d+)\"", Files.readString(file, StandardCharsets.UTF_8));
            }
        }
        Set<String> promised = new TreeSet<>();
        addFound(promised, "(?m)^## Promise (\\d+):", Files.readString(Path.of("../shared/DOC.md"), StandardCharsets.UTF_8));
        due.is("how many promises there are", 56, promised.size());
        due.is("promises that tests name", String.join(" ", promised), String.join(" ", tested));
        due.end();
    }

    private static void addFound(Set<String> found, String pattern, String text) {
        Matcher matcher = Pattern.compile(pattern).matcher(text);
        while (matcher.find()) {
            found.add(matcher.group(1));
        }
    }
}
