import java.io.IOException;
import java.lang.reflect.Method;
import java.lang.reflect.Modifier;
import java.nio.file.Files;
import java.nio.file.Path;
import java.util.List;
import java.util.regex.Matcher;
import java.util.regex.Pattern;
import java.util.stream.Stream;

/** Whether README.md tells the truth: its example's answers, all calls of the face, all tests. */
public final class ReadmeTest {
    private static final Due DUE = new Due("ReadmeTest");
    private static final Pattern ANSWERED = Pattern.compile("(call\\.\\w+\\(.*?\\)); +// (-?\\d+|true|false)\\b.*");

    private ReadmeTest() {
    }

    public static void main(String[] args) throws Exception {
        String readme = Files.readString(Path.of("README.md"));
        example(readme);
        for (Method method : RollCall.class.getMethods()) {
            if (method.getDeclaringClass() == RollCall.class && Modifier.isPublic(method.getModifiers())) {
                isTold(method, readme);
            }
        }
        for (String test : tests()) {
            DUE.is("README.md has a line of " + test, readme.contains("\n| " + test + " | "), true);
        }
        DUE.end();
    }

    private static void example(String readme) throws Exception {
        Matcher block = Pattern.compile("```java\n(.*?)```", Pattern.DOTALL).matcher(readme);
        if (!block.find()) {
            DUE.fail("README.md has no example");
            return;
        }
        Compiled compiled = Compiled.of("Example", programOf(block.group(1)));
        if (compiled.isRefused()) {
            DUE.fail("the example is not compiled");
            return;
        }
        int[] asked = (int[]) compiled.loadClass("Example").getMethod("run").invoke(null);
        DUE.is("answers that the example tells", asked[0] > 20, true);
        DUE.is("answers of the example that are wrong", asked[1], 0);
    }

    /** Each line with a call and its answer becomes one that looks at it; others stay. */
    private static String programOf(String example) {
        StringBuilder program = new StringBuilder("public final class Example {\n");
        program.append("public static int[] run() {\nDue due = new Due(\"README.md\");\n");
        for (String line : example.split("\n")) {
            Matcher answered = ANSWERED.matcher(line);
            if (answered.matches()) {
                String call = answered.group(1);
                String got = "String.valueOf(" + call + ")";
                program.append("due.is(\"" + call + "\", " + got + ", \"" + answered.group(2) + "\");\n");
            } else {
                program.append(line).append('\n');
            }
        }
        return program.append("return new int[] {due.asked(), due.wrong()};\n}\n}\n").toString();
    }

    private static void isTold(Method method, String readme) {
        int parameters = method.getParameterCount();
        String each = parameters == 0 ? "" : "\\w+(, \\w+){" + (parameters - 1) + "}";
        Pattern line = Pattern.compile("\n\\| `" + method.getName() + "\\(" + each + "\\)` \\| ");
        DUE.is("README.md has a line of " + method.getName() + "()", line.matcher(readme).find(), true);
    }

    private static List<String> tests() throws IOException {
        try (Stream<Path> files = Files.list(Path.of("src/test/java"))) {
            return files.map(file -> file.getFileName().toString()).filter(name -> name.endsWith("Test.java"))
                .map(name -> name.replace(".java", "")).sorted().toList();
        }
    }
}
