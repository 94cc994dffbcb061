import java.io.File;
import java.nio.file.Files;
import java.nio.file.Path;
import java.util.TreeSet;
import java.util.regex.Matcher;
import java.util.regex.Pattern;
import java.util.stream.Stream;
import javax.tools.ToolProvider;

/** README.md's example answers what it tells, and its table names the tests that there are. */
public final class ReadmeTest {
    private static final Pattern TOLD = Pattern.compile("(bench\\.\\w+\\([^;]*\\));\\s*// ('.'|-?\\d+|true|false)\\b.*");
    private static final Pattern ROW = Pattern.compile("\\| `(\\w+Test)` \\|.*");
    private static final String ROOT = System.getProperty("project.root", ".");

    private static String example(String text) {
        String start = "```java\n";
        int from = text.indexOf(start) + start.length();
        return text.substring(from, text.indexOf("```", from));
    }

    /** The example as a program, in which an answer that is not the one told throws. */
    private static void answers(String example) throws Exception {
        StringBuilder program = new StringBuilder("public class Example { public static void main(String[] args) {\n");
        int told = 0;
        for (String line : example.split("\n")) {
            Matcher m = TOLD.matcher(line.trim());
            if (m.matches()) {
                told++;
                program.append("if (").append(m.group(1)).append(" != ").append(m.group(2))
                        .append(") { throw new IllegalStateException(\"").append(m.group(1)).append("\"); }\n");
            } else {
                program.append(line).append('\n');
            }
        }
        Check.tell("answers told in the example", true, told > 10);
        Path folder = Files.createTempDirectory("readme");
        Path file = folder.resolve("Example.java");
        Files.writeString(file, program.append("}}\n"));
        int failed = ToolProvider.getSystemJavaCompiler().run(null, null, null, "-cp",
                System.getProperty("java.class.path"), "-d", folder.toString(), file.toString());
        Check.tell("the example compiles", 0, failed);
        Process run = new ProcessBuilder(Path.of(System.getProperty("java.home"), "bin", "java").toString(), "-cp",
                System.getProperty("java.class.path") + File.pathSeparator + folder, "Example").inheritIO().start();
        Check.tell("the example answers as told", 0, run.waitFor());
        Files.delete(folder.resolve("Example.class"));
        Files.delete(file);
        Files.delete(folder);
    }

    private static void tests(String text) throws Exception {
        TreeSet<String> named = new TreeSet<>();
        text.lines().map(ROW::matcher).filter(Matcher::matches).forEach(m -> named.add(m.group(1)));
        TreeSet<String> there = new TreeSet<>();
        try (Stream<Path> files = Files.list(Path.of(ROOT, "src/test/java"))) {
            files.map(file -> file.getFileName().toString()).filter(name -> name.endsWith("Test.java"))
                    .forEach(name -> there.add(name.replace(".java", "")));
        }
        Check.tell("the tests in the table", there, named);
    }

    public static void main(String[] args) throws Exception {
        String text = Files.readString(Path.of(ROOT, "README.md"));
        answers(example(text));
        tests(text);
        Check.tell("the script that runs them", true, text.contains(".ci/run") && Files.isExecutable(Path.of(ROOT, ".ci/run")));
        Check.end("ReadmeTest");
    }
}
