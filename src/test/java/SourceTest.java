import java.io.IOException;
import java.nio.file.Files;
import java.nio.file.Path;
import java.util.List;
import java.util.Set;
import java.util.regex.Matcher;
import java.util.regex.Pattern;

/** What of ../shared/LANGUAGE.md can be seen in the text of the class. Runs in the project's directory. */
public final class SourceTest {
    private static final Set<String> LIBRARY = Set.of(
        "Arrays.fill", "System.arraycopy", "Math.min", "Math.max", "Math.abs", "Math.floorMod");
    private static final String[] FORBIDDEN = {
        "->", "::", "catch", "finally", "synchronized", "assert", "package", "instanceof", "protected",
        "hashCode", "equals", "toString", "Random", "System.out", "nanoTime", "currentTimeMillis", "NaN",
    };
    private static final Set<String> THROWN = Set.of(
        "IllegalStateException", "IllegalArgumentException", "IndexOutOfBoundsException");

    public static void main(String[] args) throws IOException {
        List<String> lines = Files.readAllLines(Path.of("src/main/java/IceHarbour.java"));
        String code = String.join("\n", lines).replaceAll("//[^\n]*", "").replaceAll("(?s)/\\*.*?\\*/", "");
        for (String word : FORBIDDEN) {
            Check.holds("no " + word, !code.contains(word));
        }
        Check.holds("no sign above 126", code.chars().allMatch(c -> c == '\n' || c >= 32 && c < 127));
        everyMatch(code, "^import ([^;]*);", Set.of("java.util.Arrays"));
        everyMatch(code, "\\b((?:Arrays|System|Math|Integer|Long|String|Double)\\.\\w+)", LIBRARY);
        everyMatch(code, "throw new (\\w+)\\(\"[a-z ]+\"\\);", THROWN);
        Check.due("throws in the written form", count(code, "throw new \\w+\\(\"[a-z ]+\"\\);"), count(code, "\\bthrow\\b"));
        methodsAreShort(lines);
        Check.end();
    }

    private static void everyMatch(String code, String form, Set<String> allowed) {
        Matcher m = Pattern.compile(form, Pattern.MULTILINE).matcher(code);
        while (m.find()) {
            Check.holds(m.group(1) + " is allowed", allowed.contains(m.group(1)));
        }
    }

    private static int count(String code, String form) {
        return (int) Pattern.compile(form).matcher(code).results().count();
    }

    /** A method begins at a line with one or two steps of indentation that opens a brace and has parentheses. */
    private static void methodsAreShort(List<String> lines) {
        int start = -1;
        String close = "";
        int found = 0;
        for (int k = 0; k < lines.size(); k++) {
            String line = lines.get(k);
            if (start < 0 && line.matches("( {4}){1,3}\\S.*\\) (throws .*)?\\{|            throws .*\\{")
                && !line.matches(" *(if|for|while|switch|\\}).*")) {
                start = k;
                close = line.contains("throws") && line.startsWith("            ") ? "    }"
                    : line.substring(0, line.length() - line.stripLeading().length()) + "}";
            } else if (start >= 0 && line.equals(close)) {
                found++;
                Check.holds("the method at line " + (start + 1) + " has at most 60 lines", k - start <= 60);
                start = -1;
            }
        }
        Check.holds("some hundred methods are found, not " + found, found > 90);
    }
}
