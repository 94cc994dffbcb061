import com.sun.source.tree.CompilationUnitTree;
import com.sun.source.tree.MethodTree;
import com.sun.source.util.JavacTask;
import com.sun.source.util.TreeScanner;
import com.sun.source.util.Trees;
import java.io.File;
import java.nio.file.Files;
import java.nio.file.Path;
import java.util.ArrayList;
import java.util.List;
import java.util.Set;
import java.util.TreeMap;
import java.util.TreeSet;
import java.util.stream.Stream;
import javax.lang.model.element.Modifier;
import javax.tools.JavaCompiler;
import javax.tools.StandardJavaFileManager;
import javax.tools.ToolProvider;

/**
 * What an object answers after its 512th call is free, so no test may ask for it: all tests that make objects run with a
 * class that is the same but for an error at the 513th call.
 */
public final class LimitTest {
    private static final Path ROOT = Path.of(System.getProperty("project.root", ".")).toAbsolutePath();
    private static final String SHARED = System.getProperty("project.shared", "../shared");
    private static final Set<String> OF_TEXTS = Set.of("LimitTest", "LanguageTest", "RulesTest", "ReadmeTest");
    private static final String COUNT = " if (++callsMade > 512) { throw new Error(\"the 513th call\"); }";

    private static String limited(Path file) throws Exception {
        JavaCompiler compiler = ToolProvider.getSystemJavaCompiler();
        StandardJavaFileManager files = compiler.getStandardFileManager(null, null, null);
        JavacTask task = (JavacTask) compiler.getTask(null, files, null, null, null, files.getJavaFileObjects(file));
        CompilationUnitTree unit = task.parse().iterator().next();
        Trees trees = Trees.instance(task);
        TreeSet<Integer> bodies = new TreeSet<>();
        new TreeScanner<Void, Void>() {
            @Override
            public Void visitMethod(MethodTree tree, Void p) {
                if (tree.getModifiers().getFlags().contains(Modifier.PUBLIC) && tree.getReturnType() != null) {
                    bodies.add((int) trees.getSourcePositions().getStartPosition(unit, tree.getBody()) + 1);
                }
                return super.visitMethod(tree, p);
            }
        }.scan(unit, null);
        Check.tell("calls of the face", 47, bodies.size());
        StringBuilder text = new StringBuilder(Files.readString(file));
        for (int at : bodies.descendingSet()) {
            text.insert(at, COUNT);
        }
        String head = "public final class Tetrahedry {";
        return text.insert(text.indexOf(head) + head.length(), " private int callsMade;").toString();
    }

    private static List<String> sources() throws Exception {
        List<String> names = new ArrayList<>();
        try (Stream<Path> files = Files.list(ROOT.resolve("src/test/java"))) {
            files.map(Path::toString).filter(name -> name.endsWith(".java")).sorted().forEach(names::add);
        }
        return names;
    }

    private static List<String> tests() throws Exception {
        List<String> names = new ArrayList<>();
        for (String source : sources()) {
            String name = Path.of(source).getFileName().toString().replace(".java", "");
            if (name.endsWith("Test") && !OF_TEXTS.contains(name)) {
                names.add(name);
            }
        }
        return names;
    }

    private static Process start(Path folder, String test) throws Exception {
        ProcessBuilder builder = new ProcessBuilder(Path.of(System.getProperty("java.home"), "bin", "java").toString(),
                "-cp", folder.toString(), "-Dproject.root=" + ROOT, "-Dproject.shared=" + SHARED, test);
        return builder.redirectErrorStream(true).redirectOutput(folder.resolve(test + ".txt").toFile()).start();
    }

    public static void main(String[] args) throws Exception {
        Path folder = Files.createTempDirectory("limit");
        Path source = folder.resolve("Tetrahedry.java");
        Files.writeString(source, limited(ROOT.resolve("src/main/java/Tetrahedry.java")));
        List<String> compile = new ArrayList<>(List.of("-nowarn", "-encoding", "UTF-8", "-d", folder.toString(),
                "-cp", folder.toString(), source.toString()));
        compile.addAll(sources());
        int failed = ToolProvider.getSystemJavaCompiler().run(null, null, null, compile.toArray(new String[0]));
        Check.tell("all compiles", 0, failed);
        TreeMap<String, Process> running = new TreeMap<>();
        for (String test : tests()) {
            running.put(test, start(folder, test));
        }
        for (String test : running.keySet()) {
            int ended = running.get(test).waitFor();
            String said = Files.readString(folder.resolve(test + ".txt"));
            Check.tell(test + " ends well with 512 calls an object", "0", ended == 0 ? "0" : ended + ": " + said);
        }
        for (File file : folder.toFile().listFiles()) {
            Files.delete(file.toPath());
        }
        Files.delete(folder);
        Check.end("LimitTest");
    }
}
