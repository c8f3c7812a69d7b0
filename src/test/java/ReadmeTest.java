import java.net.URL;
import java.net.URLClassLoader;
import java.nio.file.Files;
import java.nio.file.Path;
import java.util.regex.Matcher;
import java.util.regex.Pattern;
import javax.tools.ToolProvider;

/** The example in README.md: it compiles, and what it says of an answer is so. */
public final class ReadmeTest {
    private static final Check check = new Check("ReadmeTest");
    private static final Pattern EXAMPLE = Pattern.compile("```java\n(.*?)```", Pattern.DOTALL);
    /** A line with an answer, and behind it the number that it is. */
    private static final Pattern ANSWER = Pattern.compile("int (\\w+) = .*; *// (-?\\d+).*");

    public static void main(String[] args) throws Exception {
        Path readme = readmeBeside(Path.of(args.length > 0 ? args[0] : "src/main/java/SuperDriver.java"));
        check.by("README.md", "How to use it");
        Matcher example = EXAMPLE.matcher(Files.readString(readme));
        check.dueTrue("there is an example", example.find());
        run(withChecks(example.group(1)));
        check.end();
    }

    private static Path readmeBeside(Path source) {
        return source.toAbsolutePath().normalize().resolve("../../../../README.md").normalize();
    }

    /** Called by the example. */
    public static void due(String line, int got, int want) {
        check.due(line, got, want);
    }

    private static String withChecks(String example) {
        StringBuilder out = new StringBuilder("public final class Example {\n");
        out.append("public static void main(String[] args) {\n");
        int answers = 0;
        for (String line : example.split("\n")) {
            out.append(line).append('\n');
            Matcher answer = ANSWER.matcher(line);
            if (answer.matches()) {
                answers++;
                out.append("ReadmeTest.due(\"").append(answer.group(1)).append("\", ");
                out.append(answer.group(1)).append(", ").append(answer.group(2)).append(");\n");
            }
        }
        check.dueTrue("the example has answers", answers > 0);
        return out.append("}\n}\n").toString();
    }

    private static void run(String source) throws Exception {
        Path folder = Files.createTempDirectory("example");
        Path file = folder.resolve("Example.java");
        Path made = folder.resolve("Example.class");
        try {
            Files.writeString(file, source);
            int failed = ToolProvider.getSystemJavaCompiler().run(null, null, null, "-cp",
                System.getProperty("java.class.path"), "-d", folder.toString(), file.toString());
            check.due("javac on the example", failed, 0);
            if (failed == 0) {
                try (URLClassLoader loader = new URLClassLoader(new URL[] {folder.toUri().toURL()})) {
                    loader.loadClass("Example").getMethod("main", String[].class)
                        .invoke(null, (Object) new String[0]);
                }
            }
        } finally {
            Files.deleteIfExists(made);
            Files.deleteIfExists(file);
            Files.deleteIfExists(folder);
        }
    }
}
