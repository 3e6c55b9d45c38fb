import java.io.IOException;
import java.nio.file.Files;
import java.nio.file.Path;
import java.util.Set;
import java.util.TreeSet;
import java.util.regex.Matcher;
import java.util.regex.Pattern;

/** The calls that README.md shows have the answers that it tells. To be run in the project's folder. */
public final class ReadmeTest {
    private static final Path README = Path.of("README.md");
    private static final String MADE = "TwiceAsRich x = new TwiceAsRich();";
    private static final Pattern CALL = Pattern.compile(
        "(?:x\\.(\\w+\\([-0-9, ]*\\))|read\\(x, (\\d), \"([^\"]*)\"\\)); *// (throws \\w+|-?\\d+): \\S.*");
    // These are never refused.
    private static final Set<String> ALWAYS_ANSWERED = Set.of("lawful", "free", "image");

    private static final Checks CHECKS = new Checks();
    private static final Set<String> SHOWN = new TreeSet<>();
    private static final Set<String> REFUSED = new TreeSet<>();
    private static Trial trial;

    public static void main(String[] args) throws IOException {
        boolean isExample = false;
        for (String line : Files.readAllLines(README)) {
            if (line.startsWith("###")) {
                CHECKS.promise("README.md, " + line);
            } else if (line.equals(MADE)) {
                trial = new Trial(CHECKS);
                isExample = true;
            } else if (line.equals("```")) {
                isExample = false;
            } else if (isExample) {
                call(line);
            }
        }
        CHECKS.promise("README.md shows each call of the face");
        for (java.lang.reflect.Method method : TwiceAsRich.class.getDeclaredMethods()) {
            if (java.lang.reflect.Modifier.isPublic(method.getModifiers())) {
                String name = method.getName();
                CHECKS.due(name + " is shown", SHOWN.contains(name) ? 1 : 0, 1);
                CHECKS.due(name + " is shown refused", REFUSED.contains(name) ? 1 : 0, ALWAYS_ANSWERED.contains(name) ? 0 : 1);
            }
        }
        CHECKS.end();
    }

    private static void call(String line) {
        Matcher call = CALL.matcher(line);
        CHECKS.due("a call and its answer: " + line, call.matches() ? 1 : 0, 1);
        if (!call.matches()) {
            return;
        }
        String made = call.group(1);
        if (made == null) {
            trial.putText(Integer.parseInt(call.group(2)), call.group(3));
            made = "street(" + call.group(2) + ")";
        }
        String name = made.substring(0, made.indexOf('('));
        long want = answer(call.group(4));
        trial.due(made, want);
        SHOWN.add(name);
        // What is worth so much less than nothing is no refusal, nor is a -4 that tells that there is none.
        boolean isRefused = name.equals("worth") ? want == -1000000001 : want < 0 && want != -4 || call.group(4).startsWith("throws");
        if (isRefused) {
            REFUSED.add(name);
        }
    }

    private static long answer(String told) {
        switch (told) {
            case "throws IllegalArgumentException": return Trial.ILLEGAL_ARGUMENT;
            case "throws IllegalStateException": return Trial.ILLEGAL_STATE;
            default: return Long.parseLong(told);
        }
    }
}
