import java.lang.reflect.InvocationTargetException;
import java.lang.reflect.Method;
import java.lang.reflect.Modifier;
import java.net.URL;
import java.net.URLClassLoader;
import java.nio.file.Files;
import java.nio.file.Path;
import java.util.ArrayList;
import java.util.List;
import java.util.concurrent.Callable;
import java.util.function.BiConsumer;
import java.util.regex.Matcher;
import java.util.regex.Pattern;

/** The examples of README.md answer as they say, each on a new object, and README.md tells of every call. */
final class ReadmeTest {
    private static final Path README = Path.of("README.md");
    private static final String NEW_OBJECT = "DecimalMenagerie menagerie = new DecimalMenagerie();";
    private static final String EXAMPLES = "ReadmeExamples";
    private static final Pattern ANSWERED = Pattern.compile("(menagerie\\..*);\\s*// ([^:]+)(: .*)?");
    private static final Pattern LINE_NOW = Pattern.compile(": the line is now (\\S+)");
    private static final Pattern UNANSWERED = Pattern.compile("menagerie\\.(save|restore)\\(\\);");

    /** What README.md tells of a call. */
    private record Due(String what, String answer) {
    }

    private final Checks checks = new Checks("ReadmeTest");
    private final List<String> lines;
    private final List<Due> dues = new ArrayList<>();
    private int examples = 0;
    private int answers = 0;

    private ReadmeTest(List<String> lines) {
        this.lines = lines;
    }

    public static void main(String[] args) throws Exception {
        new ReadmeTest(Files.readAllLines(README)).test();
    }

    private void test() throws Exception {
        String source = source();
        checks.due("there are examples", examples > 0, true);
        runExamples(source);
        checks.due("answers of the examples", answers, dues.size());
        tellsOfAllCalls();
        checks.due("the command that runs all tests", lines.contains("    .ci/run"), true);
        checks.end();
    }

    // ---- the examples as a class

    /** A class with a method for each example, which tells each call with the index of what is due. */
    private String source() {
        StringBuilder source = new StringBuilder("public final class " + EXAMPLES + " {\n");
        boolean isInExample = false;
        for (int index = 0; index < lines.size(); index++) {
            String line = lines.get(index);
            if (line.equals("```java")) {
                isInExample = true;
                checks.due("line " + (index + 2), lines.get(index + 1), NEW_OBJECT);
                source.append("public static void example").append(examples).append('(')
                        .append("java.util.function.BiConsumer<Integer, java.util.concurrent.Callable<?>> told) {\n");
                examples++;
            } else if (isInExample && line.equals("```")) {
                isInExample = false;
                source.append("}\n");
            } else if (isInExample) {
                source.append(statement(index)).append('\n');
            }
        }
        return source + "}\n";
    }

    private String statement(int index) {
        String line = lines.get(index);
        Matcher answered = ANSWERED.matcher(line);
        String what = "line " + (index + 1) + ", ";
        if (answered.matches()) {
            return told(what, answered.group(1), answered.group(2).strip()) + toldLine(what, answered.group(3));
        }
        checks.due(what + line + " tells its answer",
                line.startsWith("menagerie.") && !UNANSWERED.matcher(line).matches(), false);
        return line;
    }

    private String told(String what, String call, String answer) {
        dues.add(new Due(what + call, answer));
        return "told.accept(" + (dues.size() - 1) + ", () -> " + call + ");";
    }

    /** Looks at each character of the output line, and behind them, where the explanation tells the line. */
    private String toldLine(String what, String explanation) {
        Matcher lineNow = LINE_NOW.matcher(explanation == null ? "" : explanation);
        StringBuilder calls = new StringBuilder();
        if (lineNow.matches()) {
            String line = lineNow.group(1);
            for (int index = 0; index < line.length(); index++) {
                calls.append(told(what, "menagerie.outputAt(" + index + ")", "'" + line.charAt(index) + "'"));
            }
            calls.append(told(what, "menagerie.outputAt(" + line.length() + ")", "throws IndexOutOfBoundsException"));
        }
        return calls.toString();
    }

    private void runExamples(String source) throws Exception {
        Path folder = Files.createTempDirectory("readme");
        Path file = folder.resolve(EXAMPLES + ".java");
        Files.writeString(file, source);
        int exitCode = new ProcessBuilder("javac", "-d", folder.toString(),
                "-cp", System.getProperty("java.class.path"), file.toString()).inheritIO().start().waitFor();
        checks.due("exit code of the compiler", exitCode, 0);
        if (exitCode == 0) {
            try (URLClassLoader loader = new URLClassLoader(new URL[] {folder.toUri().toURL()})) {
                Class<?> compiled = loader.loadClass(EXAMPLES);
                for (int example = 0; example < examples; example++) {
                    runExample(compiled.getMethod("example" + example, BiConsumer.class));
                }
            }
        }
        Files.deleteIfExists(folder.resolve(EXAMPLES + ".class"));
        Files.delete(file);
        Files.delete(folder);
    }

    private void runExample(Method example) throws ReflectiveOperationException {
        BiConsumer<Integer, Callable<?>> told = this::compare;
        try {
            example.invoke(null, told);
        } catch (InvocationTargetException e) {
            checks.due(example.getName(), "threw " + e.getCause(), "ends");
        }
    }

    private void compare(int index, Callable<?> call) {
        checks.due(dues.get(index).what(), shown(call), dues.get(index).answer());
        answers++;
    }

    private static String shown(Callable<?> call) {
        try {
            Object answer = call.call();
            return answer instanceof Character ? "'" + answer + "'" : String.valueOf(answer);
        } catch (Exception e) {
            return "throws " + e.getClass().getSimpleName();
        }
    }

    // ---- the rest of the text

    private void tellsOfAllCalls() {
        String text = String.join("\n", lines);
        List<String> untold = new ArrayList<>();
        for (Method method : DecimalMenagerie.class.getDeclaredMethods()) {
            if (Modifier.isPublic(method.getModifiers())
                    && !Pattern.compile("\n\\| `" + method.getName() + "\\(.*\\)` \\| \\S").matcher(text).find()) {
                untold.add(method.getName());
            }
        }
        checks.due("calls that are not told of", untold.toString(), "[]");
    }
}
