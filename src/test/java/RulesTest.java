import java.io.IOException;
import java.nio.charset.StandardCharsets;
import java.nio.file.Files;
import java.nio.file.Path;
import java.util.Set;
import java.util.TreeSet;
import java.util.regex.Matcher;
import java.util.regex.Pattern;

/** What of ../shared/LANGUAGE.md can be seen in the words of the source. Run it from the project's directory. */
public final class RulesTest {
    private static final Set<String> LIBRARY = Set.of("Math.floorDiv", "Math.max", "Math.min", "Math.abs",
            "Integer.bitCount");
    private static final Set<String> EXCEPTIONS = Set.of("IllegalArgumentException", "IllegalStateException",
            "IndexOutOfBoundsException");
    private static final String[] NOT_USED = {"\\bimport\\b", "\\bpackage\\b", "->", "::", "\\btry\\b", "\\bcatch\\b",
        "\\bfinally\\b", "\\bassert\\b", "\\bsynchronized\\b", "\\binstanceof\\b", "\\bnative\\b", "\\bvolatile\\b",
        "\\bprotected\\b", "@", "\"", "%"};
    private static final int LONGEST_METHOD = 60;

    private static final Checks checks = new Checks();

    public static void main(String[] args) throws IOException {
        String source = Files.readString(Path.of("src/main/java/Clockhouse.java"), StandardCharsets.US_ASCII);
        String code = source.replaceAll("(?s)/\\*.*?\\*/", "").replaceAll("//[^\n]*", "");
        checks.promise("LANGUAGE.md");
        for (String word : NOT_USED) {
            checks.due("the source holds " + word, false, Pattern.compile(word).matcher(code).find());
        }
        library(code);
        exceptions(code);
        arraysAndDivisors(code);
        methodLengths(code);
        checks.end("RulesTest");
    }

    private static Set<String> found(String code, String pattern) {
        Set<String> found = new TreeSet<>();
        Matcher matcher = Pattern.compile(pattern).matcher(code);
        while (matcher.find()) {
            found.add(matcher.group(1));
        }
        return found;
    }

    private static void library(String code) {
        for (String used : found(code, "\\b((?:[A-Z][a-z]\\w*)\\.\\w+)")) {
            checks.due(used + " is allowed", true, LIBRARY.contains(used) || used.startsWith("LeapSeconds."));
        }
        checks.due("the words java and System", false, code.contains("java.") || code.contains("System"));
    }

    private static void exceptions(String code) {
        for (String thrown : found(code, "\\bthrow\\s+([^;]*);")) {
            checks.due("throw " + thrown, true, thrown.startsWith("new ") && thrown.endsWith("()")
                    && EXCEPTIONS.contains(thrown.substring(4, thrown.length() - 2)));
        }
    }

    /** So few places that each is known: a new one is looked at before it is put here. */
    private static void arraysAndDivisors(String code) {
        checks.due("the indexed places", "[cells[index], rooms[index], rooms[s]]",
                found(code, "(\\w+\\[\\w[^\\]]*\\])(?<!new \\w{1,20}\\[\\w{1,20}\\])").toString());
        checks.due("the divisors", "[(count, 2, 4, MILLION, PACE, divisor, interval, others]",
                found(code, "/ (\\(?\\w+)").toString());
        checks.due("the divisors of floorDiv", "[2L, MILLION, weights]",
                found(code, "floorDiv\\([^;]*, (\\w+)\\)").toString());
        checks.due("the lengths of arrays", "[LENGTH, MOST_SERVERS]", found(code, "new \\w+\\[(\\w+)\\]").toString());
    }

    private static void methodLengths(String code) {
        int length = 0;
        for (String line : code.split("\n")) {
            length = line.isBlank() ? 0 : length + 1;
            checks.due("a block of " + length + " lines", true, length <= LONGEST_METHOD);
        }
    }
}
