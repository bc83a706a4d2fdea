import java.io.IOException;
import java.io.UncheckedIOException;
import java.lang.reflect.InvocationTargetException;
import java.net.URL;
import java.net.URLClassLoader;
import java.nio.file.Files;
import java.nio.file.Path;
import java.util.ArrayList;
import java.util.List;
import java.util.Map;
import java.util.regex.Matcher;
import java.util.regex.Pattern;
import javax.tools.ToolProvider;

/** The example of README.md: it is Java that runs, and each of its calls answers what is written behind it. */
final class ReadmeTest {
    private static final Path README = Path.of("README.md");
    private static final Pattern EXAMPLE = Pattern.compile("```java\\n(.*?)```", Pattern.DOTALL);
    private static final Pattern CALL = Pattern.compile("mill\\.(\\w+\\([^;]*\\));(?:\\s*// ([^:\\n]*))?");

    private static final String RUNS = "it runs to its end";

    private ReadmeTest() {
    }

    static void run(Check check) {
        String text = read(README);
        check.yes("README.md: it tells the command that runs the tests", text.contains("\n    .ci/run\n"));
        check.yes("README.md: it tells for how many calls an object is used", text.contains(" 512 calls"));
        Matcher found = EXAMPLE.matcher(text);
        String example = found.find() ? found.group(1) : "";
        List<Script.Step> steps = stepsOf(check, example);
        check.yes("README.md: calls are read", steps.size() > 20);
        ScriptRun.run(check, "README.md", steps);
        compareWithModel(check, steps);
        check.same("README.md: its example runs", outcomeOf(example), RUNS);
    }

    private static List<Script.Step> stepsOf(Check check, String example) {
        List<Script.Step> steps = new ArrayList<>();
        Matcher call = CALL.matcher(example);
        while (call.find()) {
            check.yes("README.md: an answer is written behind " + call.group(1), call.group(2) != null);
            String answer = String.valueOf(call.group(2)).replaceAll("'(.)'", "$1");
            steps.addAll(Script.read(call.group(1) + " = " + answer, Map.of()));
        }
        check.same("README.md: each call is read", steps.size(), example.split("mill\\.", -1).length - 1);
        return steps;
    }

    private static void compareWithModel(Check check, List<Script.Step> steps) {
        Model model = new Model();
        for (Script.Step step : steps) {
            check.same("README.md, the model: " + step.call(), step.call().answerOf(model), step.due());
        }
    }

    private static String outcomeOf(String example) {
        try {
            Path folder = Files.createTempDirectory("readme");
            Path file = folder.resolve("ReadmeExample.java");
            Files.writeString(file, "public final class ReadmeExample {\n    public static void run() {\n"
                    + example + "    }\n}\n");
            int refused = ToolProvider.getSystemJavaCompiler().run(null, null, null, "-cp",
                    System.getProperty("java.class.path"), "-d", folder.toString(), file.toString());
            return refused == 0 ? outcomeOfCompiled(folder) : "it does not compile";
        } catch (IOException unwritten) {
            throw new UncheckedIOException(unwritten);
        }
    }

    private static String outcomeOfCompiled(Path folder) throws IOException {
        try (URLClassLoader loader = new URLClassLoader(new URL[] {folder.toUri().toURL()})) {
            loader.loadClass("ReadmeExample").getMethod("run").invoke(null);
            return RUNS;
        } catch (InvocationTargetException thrown) {
            return "it throws " + thrown.getCause();
        } catch (ReflectiveOperationException missing) {
            return "it is not found: " + missing;
        }
    }

    private static String read(Path file) {
        try {
            return Files.readString(file);
        } catch (IOException unread) {
            throw new UncheckedIOException(unread);
        }
    }
}
