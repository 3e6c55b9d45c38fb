import java.io.IOException;
import java.nio.file.Files;
import java.nio.file.Path;
import java.util.List;
import java.util.regex.Matcher;
import java.util.regex.Pattern;

/** What of LANGUAGE.md can be seen in the source's lines. To be run in the project's folder. */
public final class LanguageTest {
    private static final Path SOURCE = Path.of("src/main/java/TwiceAsRich.java");
    private static final int MOST_LINES = 60;
    private static final int MOST_CLASSES = 12;

    private static final String[] RULED_OUT = {
        "->", "::", "@", "\\bfinally\\b", "\\bsynchronized\\b", "\\bassert\\b", "getMessage", "\\bvar\\b",
        "static \\{", "\\bpackage\\b", "\\bSystem\\.(?!arraycopy\\b)", "\\bMath\\.(?!min\\b|max\\b|abs\\b)",
        "\\bArrays\\.(?!fill\\b|copyOf\\b|copyOfRange\\b)", "\\bRandom\\b", "\\bThread\\b", "Exact\\b",
        "catch \\((Runtime|Arithmetic|NullPointer|IndexOutOfBounds|ClassCast)?Exception\\b", "\\bThrowable\\b",
        "\" \\+", "\\+ \"", "extends \\w*Exception", "\\b(equals|hashCode|toString)\\(",
    };

    public static void main(String[] args) throws IOException {
        Checks checks = new Checks();
        checks.promise("the language");
        List<String> lines = Files.readAllLines(SOURCE);
        int classes = 0;
        int from = 0;
        for (int i = 0; i < lines.size(); i++) {
            String line = lines.get(i);
            String code = line.replaceAll("^\\s*(//|/\\*\\*).*", "").replaceAll("//.*", "");
            for (String pattern : RULED_OUT) {
                Matcher found = Pattern.compile(pattern).matcher(code);
                checks.due("line " + (i + 1) + " has " + pattern, found.find() ? 1 : 0, 0);
            }
            checks.due("line " + (i + 1) + " has signs beyond 127", line.chars().anyMatch(c -> c > 127) ? 1 : 0, 0);
            if (code.startsWith("import ")) {
                checks.due(code, code.matches("import java\\.util\\.(Arrays|ArrayList|List|Iterator);") ? 1 : 0, 1);
            }
            classes += code.matches(".*\\b(class|interface|enum|record) [A-Z].*") ? 1 : 0;
            if (code.matches(" {4}( {4})?\\S.*\\) (throws .*)?\\{")) {
                from = i;
            } else if (code.matches(" {4}( {4})?\\}")) {
                checks.due("the method behind line " + from + " is long", i - from >= MOST_LINES ? 1 : 0, 0);
            }
        }
        checks.due("too many classes", classes > MOST_CLASSES ? classes : 0, 0);
        checks.end();
    }
}
