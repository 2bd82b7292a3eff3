import java.io.IOException;
import java.lang.reflect.Method;
import java.lang.reflect.Modifier;
import java.nio.file.Files;
import java.nio.file.Path;
import java.util.List;
import java.util.regex.Matcher;
import java.util.regex.Pattern;

/** README.md: its example answers what it says there, and it leaves out no call of the face. */
public final class ReadmeTest {
    private static final Pattern TEXT = Pattern.compile("String text = \"([^\"]*)\";.*");
    private static final Pattern ANSWERED = Pattern.compile("x\\.(\\w+\\(.*\\)); +// (-?\\d+): .*");
    private static final Pattern THROWN = Pattern.compile("x\\.(\\w+\\(.*\\)); +// throws (\\w+)");
    private static final int LEAST_EXAMPLES = 15;

    private static final Check CHECK = new Check();

    public static void main(String[] args) throws IOException {
        List<String> readme = Files.readAllLines(Path.of("README.md"));
        example(readme);
        wholeFace(String.join("\n", readme));
        CHECK.end();
    }

    private static void example(List<String> readme) {
        CHECK.about("README.md's example");
        Run run = new Run(CHECK);
        int examples = 0;
        for (String line : readme) {
            Matcher text = TEXT.matcher(line);
            Matcher answered = ANSWERED.matcher(line);
            Matcher thrown = THROWN.matcher(line);
            if (text.matches()) {
                run.fill(0, 0, text.group(1).chars().toArray());
            } else if (answered.matches()) {
                run.due(answered.group(1), answered.group(2));
                examples++;
            } else if (thrown.matches()) {
                run.due(thrown.group(1), "throws." + thrown.group(2));
                examples++;
            }
        }
        CHECK.due("answers told, enough", examples >= LEAST_EXAMPLES ? 1 : 0, 1);
    }

    private static void wholeFace(String readme) {
        CHECK.about("README.md's tables");
        for (Method method : ThreeTimes.class.getDeclaredMethods()) {
            if (Modifier.isPublic(method.getModifiers())) {
                CHECK.due("tells " + method.getName(), readme.contains("`" + method.getName() + "(") ? 1 : 0, 1);
            }
        }
    }
}
