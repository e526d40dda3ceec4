import java.io.IOException;
import java.nio.file.Files;
import java.nio.file.Path;
import java.util.ArrayList;
import java.util.List;
import java.util.Set;
import java.util.regex.Matcher;
import java.util.regex.Pattern;

/** Rules of LANGUAGE.md that the source tells; run where README.md lies. */
final class SourceTest {
    private static final Path SOURCE = Path.of("src/main/java/FreezeCredits.java");

    // Rules 2, 3, 4, 6, 10 and 13; the rules leave catches and doubles, but the class needs none.
    private static final List<String> FORBIDDEN = List.of(
        "->", "::", "\\b(package|import|finally|synchronized|assert|try|catch|volatile|transient|native|var)\\b",
        "\\b(double|float)\\b", "\\w+Exact\\b", "\\.(equals|hashCode|toString|getClass|getMessage|format)\\(",
        "\\b(Thread|Runtime|Random|Object|HashMap|Map|Set|Optional|Stream)\\b", "\\bstatic\\s*\\{",
        "\"\\s*\\+", "\\+\\s*\"", "\\bprotected\\b");

    // What the class uses of the static functions that rule 4 leaves; more may be added.
    private static final Set<String> LIBRARY = Set.of(
        "System.arraycopy", "Math.max", "Math.min", "Verb.values");

    private static final Set<String> EXCEPTIONS = Set.of(
        "IllegalStateException", "IllegalArgumentException", "IndexOutOfBoundsException");

    private static final int LONGEST_METHOD = 60;
    private static final int MOST_PARAMETERS = 7;

    public static void main(String[] args) throws IOException {
        String source = Files.readString(SOURCE);
        due(source.chars().allMatch(c -> c == '\n' || (c >= ' ' && c < 127)), "signs of ASCII alone");
        String code = withoutTexts(source);
        for (String forbidden : FORBIDDEN) {
            List<String> found = all(forbidden, code);
            due(found.isEmpty(), "none of " + forbidden + " in the source, which has " + found);
        }
        for (String call : all("\\b[A-Z]\\w*[a-z]\\w*\\.[a-z]\\w*(?=\\()", code)) {
            due(LIBRARY.contains(call), call + " is a static function that may be called");
        }
        for (String thrown : all("(?<=throw new )\\w+", code)) {
            due(EXCEPTIONS.contains(thrown), thrown + " is one that the document names");
        }
        Check.same("throws that make no exception", 0, all("\\bthrow (?!new \\w+\\(\"\"\\);)", code).size());
        methods(code);
        Check.end();
    }

    private static void due(boolean good, String what) {
        Check.same(what, 1, good ? 1 : 0);
    }

    private static String withoutTexts(String source) {
        return source.replaceAll("(?s)/\\*.*?\\*/", "").replaceAll("//[^\n]*", "")
                .replaceAll("\"[^\"\n]*\"", "\"\"").replaceAll("'[^\n]'", "' '");
    }

    private static List<String> all(String pattern, String code) {
        List<String> found = new ArrayList<>();
        for (Matcher m = Pattern.compile(pattern).matcher(code); m.find();) {
            found.add(m.group());
        }
        return found;
    }

    private static void methods(String code) {
        Matcher m = Pattern.compile("(?s)\n( {4}| {8})[A-Za-z][\\w\\[\\] ]*\\(([^()]*)\\)[\\w\\s,]*\\{\n.*?\n\\1\\}")
                .matcher(code);
        int found = 0;
        while (m.find()) {
            found++;
            String head = m.group().strip().lines().findFirst().orElse("");
            due(m.group().strip().lines().count() <= LONGEST_METHOD, head + " is short");
            due(m.group(2).split(",").length <= MOST_PARAMETERS, head + " has few parameters");
        }
        due(found > 80, "the methods are found, of which there are " + found);
    }
}
