import java.io.IOException;
import java.lang.reflect.Field;
import java.lang.reflect.Method;
import java.lang.reflect.Modifier;
import java.nio.charset.StandardCharsets;
import java.nio.file.Files;
import java.nio.file.Path;
import java.util.ArrayList;
import java.util.List;
import java.util.Set;
import java.util.TreeSet;
import java.util.regex.Matcher;
import java.util.regex.Pattern;

/** The face of the document, and those rules of LANGUAGE.md that can be looked at from outside. */
public final class LanguageTest {
    private static final String FACE = "about(int) as(int,int) ask(int,int) assume(int) atMost(int,int) begin(int) check() claim(int)"
            + " clause(int) copy(int,int,int,int,int) core(int) coreAt(int,int) count(int,int) counted(int,boolean) cut(int,int)"
            + " digest() drop(int) export() feed(long,int) forced() forcedAt(int) forget(int) free() get(int,int) goOn(int)"
            + " group(int,int) item(int,int) kind(int) least(int) line(int,int) names(int) next(int) out(int) parity(int,boolean)"
            + " print(int) proof(int,int) put(int,int,int) quarrel(int) refusedAt() row(int,int) rows(int,int) shrink(int)"
            + " solve(int) solved(int) status() strike(int) take() told() trace(int) truth(int) unbar() weighs(int)"
            + " weight(int,int) why(int) wipe()";
    private static final Set<String> LONGS = Set.of("get", "weighs", "digest");
    private static final Set<String> LIBRARY = Set.of("Arrays.fill", "Arrays.copyOf", "System.arraycopy", "Math.abs", "Math.max",
            "Math.min", "Integer.bitCount", "Long.bitCount");
    private static final Due due = new Due("LanguageTest");

    public static void main(String[] args) throws IOException {
        face();
        classes();
        String source = Files.readString(Path.of("src/main/java/ClauseCourt.java"), StandardCharsets.US_ASCII);
        String code = source.replaceAll("(?s)/\\*.*?\\*/", "").replaceAll("//[^\n]*", "").replaceAll("\"[^\"\n]*\"", "\"\"");
        words(code);
        library(code);
        lengths(source);
        due.end();
    }

    private static void face() {
        Set<String> found = new TreeSet<>();
        for (Method method : ClauseCourt.class.getDeclaredMethods()) {
            if (Modifier.isPrivate(method.getModifiers())) {
                continue;
            }
            due.is(method + " is public alone", Modifier.PUBLIC, method.getModifiers());
            String type = LONGS.contains(method.getName()) ? "long" : "int";
            due.is("what it answers", type, method.getReturnType().getName());
            List<String> types = new ArrayList<>();
            for (Class<?> one : method.getParameterTypes()) {
                types.add(one.getName());
            }
            found.add(method.getName() + "(" + String.join(",", types) + ")");
        }
        due.is("the face", String.join(" ", new TreeSet<>(List.of(FACE.split(" ")))), String.join(" ", found));
        Set<String> constants = new TreeSet<>();
        for (Field field : ClauseCourt.class.getDeclaredFields()) {
            if (!Modifier.isPrivate(field.getModifiers())) {
                constants.add(field.getName());
            }
        }
        due.is("the constants", "BAD BEYOND CAST FULL NONE NOTHING SIZE SPENT STATE", String.join(" ", constants));
        due.is("one constructor", 1, ClauseCourt.class.getDeclaredConstructors().length);
        due.is("it is final", 1, Modifier.isFinal(ClauseCourt.class.getModifiers()) ? 1 : 0);
    }

    private static void classes() {
        List<Class<?>> all = new ArrayList<>(List.of(ClauseCourt.class.getDeclaredClasses()));
        Set<String> publicNames = new TreeSet<>();
        for (String method : FACE.split(" ")) {
            publicNames.add(method.substring(0, method.indexOf('(')));
        }
        for (Class<?> one : all) {
            due.is(one + " is static", 1, Modifier.isStatic(one.getModifiers()) ? 1 : 0);
            for (Method method : one.getDeclaredMethods()) {
                due.is(one + " names " + method.getName(), 0, publicNames.contains(method.getName()) ? 1 : 0);
            }
        }
        all.add(ClauseCourt.class);
        due.is("twelve classes at most", 1, all.size() <= 12 ? 1 : 0);
        for (Class<?> one : all) {
            int fields = 0;
            for (Field field : one.getDeclaredFields()) {
                boolean isStatic = Modifier.isStatic(field.getModifiers());
                fields += isStatic ? 0 : 1;
                due.is(field + " is final if static", 1, !isStatic || Modifier.isFinal(field.getModifiers()) ? 1 : 0);
            }
            due.is(one + " has twenty fields at most", 1, fields <= 20 ? 1 : 0);
            for (Method method : one.getDeclaredMethods()) {
                due.is(method + " has seven parameters at most", 1, method.getParameterCount() <= 7 ? 1 : 0);
            }
        }
    }

    private static void words(String code) {
        String[] refused = {"throw", "throws", "try", "catch", "finally", "synchronized", "assert", "double", "float", "Object",
            "protected", "volatile", "native", "var", "equals", "hashCode", "toString", "clone"};
        for (String word : refused) {
            due.is("the word " + word, 0, Pattern.compile("\\b" + word + "\\b").matcher(code).find() ? 1 : 0);
        }
        due.is("lambdas", 0, code.contains("->") || code.contains("::") ? 1 : 0);
        due.is("texts joined by +", 0, code.contains("\"\" +") || code.contains("+ \"\"") ? 1 : 0);
        due.is("a loop without an end", 0, Pattern.compile("while \\(true\\)|for \\(;|; ; ").matcher(code).find() ? 1 : 0);
    }

    private static void library(String code) {
        Matcher imports = Pattern.compile("import [^;]*;").matcher(code);
        while (imports.find()) {
            due.is("an import", "import java.util.Arrays;", imports.group());
        }
        Matcher calls = Pattern.compile("\\b(Arrays|System|Math|Integer|Long|String|Character|Byte)\\.\\w+").matcher(code);
        while (calls.find()) {
            due.is(calls.group() + " is allowed", 1, LIBRARY.contains(calls.group()) ? 1 : 0);
        }
    }

    private static void lengths(String source) {
        String[] lines = source.split("\n");
        int from = -1;
        for (int i = 0; i < lines.length; i++) {
            if (lines[i].matches("^(    ){1,2}[^ /*].*\\) \\{$")) {
                from = i;
            }
            if (from >= 0 && lines[i].matches("^(    ){1,2}\\}$")) {
                due.is("sixty lines at most: " + lines[from].trim(), 1, i - from <= 60 ? 1 : 0);
                from = -1;
            }
        }
    }
}
