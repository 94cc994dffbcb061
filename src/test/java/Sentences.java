import java.lang.reflect.InvocationTargetException;
import java.lang.reflect.Method;
import java.nio.file.Files;
import java.nio.file.Path;
import java.util.ArrayList;
import java.util.Arrays;
import java.util.Comparator;
import java.util.List;
import java.util.TreeMap;
import java.util.TreeSet;

/** Runs a test for each sentence, and looks whether the document says it, and whether none of its rows is left out. */
final class Sentences {
    /** Paragraphs by promise, 0 for what stands before the first one; blanks are one each. */
    private final TreeMap<Integer, List<String>> chapters = new TreeMap<>();
    private final TreeMap<Integer, TreeSet<String>> tested = new TreeMap<>();
    private int tests;

    Sentences() throws Exception {
        String shared = System.getProperty("project.shared", "../shared");
        String text = Files.readString(Path.of(shared, "DOC.md"));
        int promise = 0;
        for (String paragraph : text.substring(0, text.indexOf("## Not promised")).split("\n\n")) {
            if (paragraph.startsWith("## Promise ")) {
                promise = Integer.parseInt(paragraph.replaceAll("\\D+(\\d+):.*", "$1"));
            }
            chapters.computeIfAbsent(promise, k -> new ArrayList<>()).add(paragraph.replaceAll("\\s+", " ").trim());
        }
    }

    void run(Class<?> tests) throws Exception {
        Method[] all = tests.getDeclaredMethods();
        Arrays.sort(all, Comparator.comparing(Method::getName));
        for (Method test : all) {
            Says says = test.getAnnotation(Says.class);
            if (says != null) {
                run(test, says);
            }
        }
        Check.about(tests.getName());
    }

    private void run(Method test, Says says) throws Exception {
        tests++;
        Check.about((says.promise() == 0 ? "Terms" : "Promise " + says.promise()) + ", " + says.value());
        boolean said = false;
        for (String paragraph : chapters.getOrDefault(says.promise(), List.of())) {
            said |= paragraph.contains(says.value());
        }
        Check.tell("the document", "says it", said ? "says it" : "does not say it");
        tested.computeIfAbsent(says.promise(), k -> new TreeSet<>()).add(says.value());
        test.setAccessible(true);
        int before = Check.told();
        try {
            test.invoke(null);
        } catch (InvocationTargetException e) {
            Check.tell(test.getName(), "an end", e.getCause() + " at " + e.getCause().getStackTrace()[0]);
        }
        Check.tell(test.getName() + " tests something", true, Check.told() > before);
    }

    /**
     * Each row 'Returns ..' and 'Throws ..' of each promise, and each parameter's row that tells a range, has a test that
     * names it whole.
     */
    void leaveNoRowOut() {
        int rows = 0;
        int ranges = 0;
        for (int promise = 1; promise <= 48; promise++) {
            for (String paragraph : chapters.getOrDefault(promise, List.of())) {
                if (paragraph.startsWith("Returns ") || paragraph.startsWith("Throws `")) {
                    rows++;
                    isTested(promise, paragraph);
                }
                for (String row : paragraph.startsWith("- `") ? paragraph.substring(2).split(" - ") : new String[0]) {
                    if (row.matches(".*\\d.*")) {
                        ranges++;
                        isTested(promise, row);
                    }
                }
            }
        }
        Check.tell("there are rows", true, rows > 100);
        Check.tell("there are rows of ranges", true, ranges > 6);
        System.out.println(tests + " tests of sentences, " + rows + " of them rows of promises, " + ranges + " of ranges");
    }

    private void isTested(int promise, String row) {
        boolean has = tested.containsKey(promise) && tested.get(promise).contains(row);
        Check.tell("a test of promise " + promise + ", " + row, true, has);
    }

    /** The tests of the chapter Terms name all that is written there, up to its examples. */
    void leaveNoTermOut() {
        List<String> all = chapters.get(0);
        int first = all.indexOf("## Terms") + 1;
        int end = all.indexOf("<p>Examples:");
        Check.tell("the chapter Terms", true, first > 0 && end > first + 6);
        for (String paragraph : all.subList(Math.max(0, first), Math.max(first, end))) {
            String left = paragraph.replaceFirst("^<h2>[^<]*</h2> ", "");
            for (String sentence : tested.getOrDefault(0, new TreeSet<>())) {
                int at = paragraph.indexOf(sentence) - (paragraph.length() - left.length());
                if (at >= 0) {
                    left = left.substring(0, at) + " ".repeat(sentence.length()) + left.substring(at + sentence.length());
                }
            }
            Check.tell("without a test", "", left.trim());
        }
    }
}
