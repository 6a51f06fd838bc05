import java.io.IOException;
import java.nio.file.Files;
import java.nio.file.Path;
import java.util.ArrayList;
import java.util.HashSet;
import java.util.List;
import java.util.Set;

/** The sentences of ../shared/DOC.md. A test names its sentence by the section and by the words that begin it. */
final class Document {
    private static final Path PLACE = Path.of("../shared/DOC.md");
    private static final Set<String> NOT_READ = Set.of("Clockhouse", "The public face", "Not promised");

    /** These tell the order of the interface, and no answer of a call. */
    private static final String ORDER = "Ahead of the calls ";

    /** Not behind a number that begins a line, because "1. If" is one sentence. */
    private static final String BETWEEN_SENTENCES = "(?<=\\.)(?<!^\\d\\.) (?=[A-Z])";

    private record Sentence(String section, String text) {
    }

    private final List<Sentence> sentences = new ArrayList<>();
    private final Set<Sentence> tested = new HashSet<>();
    private final Checks checks;

    Document(Checks checks) throws IOException {
        this.checks = checks;
        String section = "";
        for (String line : Files.readAllLines(PLACE)) {
            if (line.startsWith("#")) {
                section = line.replaceFirst("#+ ", "").replaceFirst(":.*", "");
            } else if (!line.isBlank() && !NOT_READ.contains(section) && !line.startsWith(ORDER)) {
                for (String text : line.split(BETWEEN_SENTENCES)) {
                    sentences.add(new Sentence(section, text));
                }
            }
        }
    }

    void test(String section, String beginning, Runnable test) {
        checks.promise(section + ", \"" + beginning + "\"");
        List<Sentence> meant = new ArrayList<>(sentences);
        meant.removeIf(s -> !s.section.equals(section) || !s.text.startsWith(beginning));
        checks.due("the number of sentences of the document that begin so", 1, meant.size());
        for (Sentence sentence : meant) {
            checks.due("the sentence has no test yet", true, tested.add(sentence));
        }
        int before = checks.made();
        checks.dueNoThrow("the test", test);
        checks.due("the test checks something", true, checks.made() > before);
    }

    void end() {
        checks.promise("the document");
        checks.due("it has sentences", true, !sentences.isEmpty());
        for (Sentence sentence : sentences) {
            checks.due("a test of " + sentence, true, tested.contains(sentence));
        }
    }
}
