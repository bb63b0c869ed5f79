import java.io.File;
import java.io.IOException;
import java.net.URL;
import java.net.URLClassLoader;
import java.nio.file.Files;
import java.nio.file.Path;
import java.util.ArrayList;
import java.util.List;
import javax.tools.ToolProvider;

/**
 * README.md keeps to what the class does: its example compiles as it stands, each call in it answers
 * what stands behind the //, and the page names each test and the command that runs them. It is run
 * from the project's directory.
 */
public final class ReadmeTest {
    private static final Path BUILT = Path.of("build", "readme");

    private final Checks checks = new Checks();
    private final List<String> page;

    private ReadmeTest(List<String> page) {
        this.page = page;
    }

    public static void main(String[] args) throws IOException, ReflectiveOperationException {
        ReadmeTest test = new ReadmeTest(Files.readAllLines(Path.of("README.md")));
        test.example();
        test.command();
        test.namesOfTests();
        test.checks.end("ReadmeTest");
    }

    private List<String> exampleLines() {
        int begin = page.indexOf("```java");
        List<String> behind = page.subList(begin + 1, page.size());
        return begin < 0 ? List.of() : behind.subList(0, behind.indexOf("```"));
    }

    private void example() throws IOException, ReflectiveOperationException {
        List<String> calls = new ArrayList<>();
        List<String> due = new ArrayList<>();
        for (String line : exampleLines()) {
            int comment = line.indexOf("//");
            if (comment >= 0) {
                calls.add(line.substring(0, comment).strip().replaceAll(";$", ""));
                due.add(line.substring(comment + 2).replaceAll(":.*", "").strip());
            }
        }
        checks.due("README.md's example has calls", due.isEmpty(), false);
        boolean compiles = compiles(sourceOfExample());
        checks.due("README.md's example compiles", compiles, true);
        if (compiles) {
            List<?> got = answersOfExample();
            checks.due("README.md's example: how many answers", got.size(), due.size());
            for (int i = 0; i < got.size() && i < due.size(); i++) {
                checks.due("README.md: " + calls.get(i), String.valueOf(got.get(i)), due.get(i));
            }
        }
    }

    /** The example twice: as it stands, and with each answer that it tells put on a list. */
    private String sourceOfExample() {
        StringBuilder asItStands = new StringBuilder();
        StringBuilder asked = new StringBuilder();
        for (String line : exampleLines()) {
            asItStands.append(line).append('\n');
            int comment = line.indexOf("//");
            String call = comment < 0 ? line : line.substring(0, comment).strip().replaceAll(";$", "");
            asked.append(comment < 0 ? call : "answers.add(" + call + ");").append('\n');
        }
        return "public final class ReadmeExample {\n"
            + "public static void asItStands() {\n" + asItStands + "}\n"
            + "public static java.util.List<Object> answers() {\n"
            + "java.util.List<Object> answers = new java.util.ArrayList<>();\n" + asked
            + "return answers;\n}\n}\n";
    }

    private static boolean compiles(String source) throws IOException {
        Files.createDirectories(BUILT);
        Path file = BUILT.resolve("ReadmeExample.java");
        Files.writeString(file, source);
        return ToolProvider.getSystemJavaCompiler().run(null, null, null, "--release", "17",
            "-cp", System.getProperty("java.class.path"), "-d", BUILT.toString(), file.toString()) == 0;
    }

    private static List<?> answersOfExample() throws IOException, ReflectiveOperationException {
        try (URLClassLoader loader = new URLClassLoader(new URL[] {BUILT.toUri().toURL()})) {
            Class<?> example = loader.loadClass("ReadmeExample");
            example.getMethod("asItStands").invoke(null);
            return (List<?>) example.getMethod("answers").invoke(null);
        }
    }

    private void command() {
        checks.due("README.md tells the command .ci/run", page.contains("    .ci/run"), true);
        checks.due(".ci/run can be run", new File(".ci/run").canExecute(), true);
    }

    private void namesOfTests() {
        String text = String.join("\n", page);
        String[] files = new File("src/test/java").list();
        for (String file : files == null ? new String[0] : files) {
            if (file.endsWith("Test.java")) {
                String name = "`" + file.replace(".java", "") + "`";
                checks.due("README.md names " + name, text.contains(name), true);
            }
        }
    }
}
