import java.nio.file.Files;
import java.nio.file.Path;
import java.util.List;
import java.util.regex.Matcher;
import java.util.regex.Pattern;

/** What can be seen of LANGUAGE.md's rules in the source's text. */
public final class LanguageTest {
    private static void none(String source, String rule, String pattern) {
        Matcher m = Pattern.compile(pattern).matcher(source);
        Check.tell("rule " + rule + " against " + pattern, "nothing", m.find() ? m.group() : "nothing");
    }

    public static void main(String[] args) throws Exception {
        String root = System.getProperty("project.root", ".");
        Path file = Path.of(root, "src/main/java/Tetrahedry.java");
        String text = Files.readString(file);
        String source = text.replaceAll("(?s)/\\*.*?\\*/", "").replaceAll("//[^\n]*", "")
                .replaceAll("\"[^\"\n]*\"", "\"\"");
        none(source, "1", "\\bprotected\\b");
        none(source, "2", "->|::");
        none(source, "4", "import (?!java\\.util\\.NoSuchElementException;)[^;]*;");
        none(source, "4", "\\b(HashMap|Collections|Objects|Optional|String\\.format|System\\.(?!arraycopy))\\b");
        none(source, "4", "\\w+Exact\\(");
        none(source, "5", "static \\{|static (?!final|class|[\\w\\[\\]]+ \\w+\\(|final)");
        none(source, "6", "\\b(catch|finally|synchronized|assert|extends|instanceof)\\b");
        none(source, "6", "throw new (?!(IllegalState|IllegalArgument|IndexOutOfBounds|Arithmetic|"
                + "UnsupportedOperation|NoSuchElement)Exception\\(\"\"\\))\\w+");
        none(source, "9", "while \\((true)?\\)|for \\(;;");
        none(source, "13", "\\b(Random|nanoTime|currentTimeMillis|Thread|File|getenv)\\b");
        lengths(List.of(source.split("\n")));
        Check.end("LanguageTest");
    }

    /** A method starts eight or four blanks in, with a body, and ends with a brace as far in. */
    private static void lengths(List<String> lines) {
        for (int at = 0; at < lines.size(); at++) {
            Matcher m = Pattern.compile("^(    |        )(?! )[^;=]*\\) ?(throws [\\w, ]+)?\\{?$").matcher(lines.get(at));
            if (m.find() && !lines.get(at).contains(" new ") && !lines.get(at).trim().startsWith("}")) {
                int end = at;
                while (end < lines.size() - 1 && !lines.get(end).equals(m.group(1) + "}")) {
                    end++;
                }
                Check.tell("short: " + lines.get(at).trim(), true, end - at < 60);
            }
        }
    }
}
