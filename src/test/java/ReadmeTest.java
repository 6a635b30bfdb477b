import java.io.IOException;
import java.lang.reflect.Method;
import java.lang.reflect.Modifier;
import java.nio.file.Files;
import java.nio.file.Path;
import java.util.List;
import java.util.regex.Matcher;
import java.util.regex.Pattern;

/** README.md: its example answers as its comments say, and each call of the face is named. */
public final class ReadmeTest {
    private static final Pattern CALL = Pattern.compile("comparer\\.(\\w+\\([^)]*\\)); +// ([^:]+): .*");

    public static void main(String[] args) throws IOException {
        List<String> lines = Files.readAllLines(Path.of("README.md"));
        example(lines);
        names(String.join("\n", lines));
        Run.end("ReadmeTest");
    }

    private static void example(List<String> lines) {
        Run run = new Run("README.md");
        int calls = 0;
        for (String line : lines) {
            if (line.startsWith("comparer.")) {
                Matcher parts = CALL.matcher(line);
                Run.compare("README.md", line + " has a call and its answer", "" + parts.matches(), "true");
                if (parts.matches()) {
                    run.due(parts.group(1), parts.group(2).replace("throws ", "throws."));
                    calls++;
                }
            }
        }
        Run.compare("README.md", "has an example", "" + (calls > 0), "true");
    }

    private static void names(String text) {
        for (Method method : TreeComparer.class.getDeclaredMethods()) {
            if (Modifier.isPublic(method.getModifiers())) {
                boolean named = text.contains("`" + method.getName() + "`");
                Run.compare("README.md", "names " + method.getName(), "" + named, "true");
            }
        }
    }
}
