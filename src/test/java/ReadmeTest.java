import java.io.IOException;
import java.lang.reflect.Method;
import java.lang.reflect.Modifier;
import java.nio.charset.StandardCharsets;
import java.nio.file.Files;
import java.nio.file.Path;
import java.util.ArrayList;
import java.util.List;
import java.util.Set;
import java.util.TreeSet;
import java.util.regex.Matcher;
import java.util.regex.Pattern;
import java.util.stream.Stream;

/** README.md tells the truth: its example, the calls, the ranges and the tests. Run it from the project's directory. */
public final class ReadmeTest {
    private static final Path TESTS = Path.of("src/test/java");
    private static final Pattern TOLD = Pattern.compile(
            "^(?:int|long)? *(\\w+) = [^;]*; *// (?:Clockhouse\\.)?(-?\\w+)(?::.*)?$");
    private static final Pattern CALL = Pattern.compile("`(\\w+)\\(([\\w, ]*)\\)`");
    private static final Pattern ROW_OF_CALL = Pattern.compile("(?m)^\\| `(\\w+)\\(.*");
    private static final Pattern PROMISE = Pattern.compile("(?ms)^## Promise \\d+: (\\w+)\\n(.*?)(?=^## )");
    private static final Pattern RANGE = Pattern.compile("-?\\d+ to -?\\d+");
    private static final Pattern ROW_OF_TEST = Pattern.compile("(?m)^\\| `(\\w+Test)` \\|");

    private static final Checks checks = new Checks();

    public static void main(String[] args) throws IOException {
        String page = read(Path.of("README.md"));
        checks.promise("README.md");
        List<String> example = example(page);
        checks.due("the example is the one that is run here", String.join("\n", exampleOf(read(
                TESTS.resolve("ReadmeTest.java")))), String.join("\n", example));
        checks.due("the answers told", String.join("\n", answers()), String.join("\n", told(example)));
        calls(page);
        ranges(page, read(Path.of("../shared/DOC.md")));
        tests(page);
        checks.end("ReadmeTest");
    }

    private static String read(Path path) throws IOException {
        return Files.readString(path, StandardCharsets.UTF_8);
    }

    private static List<String> example(String page) {
        int begin = page.indexOf("```java\n");
        int end = page.indexOf("\n```\n", begin);
        checks.due("there is an example", true, begin >= 0 && end > begin);
        return begin < 0 || end < begin ? List.of() : page.substring(begin + 8, end).lines().toList();
    }

    /** The lines of answers() up to its return, as they would stand on the page. */
    private static List<String> exampleOf(String source) {
        int begin = source.indexOf("answers() {\n");
        int end = source.indexOf("        return", begin);
        return source.substring(begin + 12, end).lines().map(line -> line.substring(8)).toList();
    }

    private static List<String> answers() {
        Clockhouse x = new Clockhouse();
        x.restart(-5000000);                     // the clock is five seconds behind true time
        int a = x.addServer(1, 0, 0, 0);         // stratum, error, root delay, root dispersion
        int b = x.addServer(2, 300, 1000, 500);
        int c = x.addServer(2, 900000, 0, 0);    // its clock is almost a second ahead
        x.exchange(a, 1000, 10, 1000);           // out, processing, back
        x.exchange(b, 700, 10, 500);
        x.exchange(c, 800, 10, 800);
        int agreeing = x.agreeing();             // 3: bits 0 and 1, servers a and b
        int peer = x.peer();                     // 0: server a
        int first = Clockhouse.NONE;
        if (x.hasMajority()) {
            first = x.synchronize();             // Clockhouse.STEPPED
        }
        long behindStep = x.error();             // 153
        x.setDrift(50);
        x.pass(1000000);                         // true time goes on by a second
        x.exchange(a, 400, 10, 400);
        int second = x.synchronize();            // Clockhouse.SLEWED
        long pending = x.pendingSlew();          // -203
        int correction = x.correction();         // -50: it makes up for the drift
        long smear = x.announceLeap(0, true);    // 66400000000
        for (int i = 0; i < 67; i++) {
            x.pass(1000000000);
        }
        long now = x.clock();                    // 67001005640
        long civil = x.civil();                  // 67000975590: of the leap second, 30050 have come
        return List.of("agreeing " + agreeing, "peer " + peer, "first " + nameOf(first), "behindStep " + behindStep,
                "second " + nameOf(second), "pending " + pending, "correction " + correction, "smear " + smear,
                "now " + now, "civil " + civil);
    }

    private static String nameOf(int result) {
        return result == Clockhouse.STEPPED ? "STEPPED" : result == Clockhouse.SLEWED ? "SLEWED" : "neither";
    }

    private static List<String> told(List<String> example) {
        List<String> told = new ArrayList<>();
        for (String line : example) {
            Matcher matcher = TOLD.matcher(line.strip());
            if (matcher.matches() && !line.contains("addServer")) {
                told.add(matcher.group(1) + " " + matcher.group(2));
            }
        }
        return told;
    }

    /** Each public call stands there once or more, with as many arguments as it takes, and no other one. */
    private static void calls(String page) {
        Set<String> named = new TreeSet<>();
        Matcher matcher = CALL.matcher(page);
        while (matcher.find()) {
            String arguments = matcher.group(2);
            named.add(matcher.group(1) + "/" + (arguments.isEmpty() ? 0 : arguments.split(", ").length));
        }
        Set<String> due = new TreeSet<>();
        for (Method method : Clockhouse.class.getDeclaredMethods()) {
            if (Modifier.isPublic(method.getModifiers())) {
                due.add(method.getName() + "/" + method.getParameterCount());
            }
        }
        checks.due("the calls it names", due.toString(), named.toString());
    }

    private static void ranges(String page, String document) {
        Matcher promise = PROMISE.matcher(document);
        Set<String> due = new TreeSet<>();
        while (promise.find()) {
            addRanges(due, promise.group(1), promise.group(2));
        }
        Matcher row = ROW_OF_CALL.matcher(page);
        Set<String> named = new TreeSet<>();
        while (row.find()) {
            addRanges(named, row.group(1), row.group());
        }
        checks.due("the document tells ranges", false, due.isEmpty());
        checks.due("the ranges it names", due.toString(), named.toString());
    }

    private static void addRanges(Set<String> ranges, String call, String text) {
        List<String> found = new ArrayList<>();
        Matcher matcher = RANGE.matcher(text);
        while (matcher.find()) {
            found.add(matcher.group());
        }
        if (!found.isEmpty()) {
            ranges.add(call + found);
        }
    }

    private static void tests(String page) throws IOException {
        Set<String> named = new TreeSet<>();
        Matcher matcher = ROW_OF_TEST.matcher(page);
        while (matcher.find()) {
            named.add(matcher.group(1));
        }
        Set<String> due = new TreeSet<>();
        try (Stream<Path> files = Files.list(TESTS)) {
            files.map(file -> file.getFileName().toString()).filter(name -> name.endsWith("Test.java"))
                    .forEach(name -> due.add(name.substring(0, name.length() - 5)));
        }
        checks.due("the tests it names", due.toString(), named.toString());
        checks.due("it says .ci/run", true, page.contains("\n    .ci/run\n"));
        checks.due("what it tells to run can be run", true, Files.isExecutable(Path.of(".ci/run")));
    }
}
