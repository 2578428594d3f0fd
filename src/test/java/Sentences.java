import java.io.IOException;
import java.nio.file.Files;
import java.nio.file.Path;
import java.util.HashMap;
import java.util.Map;
import java.util.Set;
import java.util.TreeSet;

/**
 * Answers that are due by a sentence of the document. Each sentence is looked up in its section there, so that no test
 * asks for what the document does not say, and each section that a test stands for must have been asked.
 */
final class Sentences {
    private static final Path DOCUMENT = Path.of("../shared/DOC.md");

    private final Due due = new Due();
    private final Map<String, String> sections = new HashMap<>();
    private final Set<String> unasked = new TreeSet<>();

    Sentences(String... standsFor) {
        unasked.addAll(Set.of(standsFor));
        String name = "";
        try {
            for (String line : Files.readAllLines(DOCUMENT)) {
                name = line.startsWith("## ") ? line.substring(3).split(":")[0] : name;
                sections.merge(name, " " + line, String::concat);
            }
        } catch (IOException e) {
            throw new IllegalStateException("no document at " + DOCUMENT.toAbsolutePath(), e);
        }
    }

    /** What follows is due by these words of that section. */
    void says(String section, String words) {
        due.topic(section + ", '" + words + "'");
        due.is("the document says so", oneBlank(sections.getOrDefault(section, "")).contains(oneBlank(words)), true);
        unasked.remove(section);
    }

    private static String oneBlank(String text) {
        return text.replaceAll("\\s+", " ");
    }

    void is(String call, long got, long want) {
        due.is(call, got, want);
    }

    void is(String call, boolean got, boolean want) {
        due.is(call, got, want);
    }

    /** A text on a new object: its FAULT's number (0 without) and place, and that the tape is empty then. */
    void reads(int t, String text, int number, int place) {
        SealedSums x = new SealedSums(t);
        String shown = text.length() > 70 ? text.substring(0, 30) + " .. " + text.substring(text.length() - 30) : text;
        due.is("T " + t + ": read() of " + shown, Due.read(x, text), number);
        due.is("T " + t + ": place() of " + shown, x.place(), place);
        due.is("T " + t + ": programs after " + shown, x.count(2), number == 0 ? 1 : 0);
        due.is("T " + t + ": the tape after " + shown, x.count(3), 0);
    }

    /** A call that is refused: its answer, and that it leaves everything as it was. */
    void refused(String call, Twins.House house, Twins.Call made, long want) {
        due.is(call, made.of(house.made()), want);
        String other = Twins.firstDifference(house, made);
        if (!other.isEmpty()) {
            System.out.println(call + " changed " + other);
        }
        due.is(call + " leaves everything as it was", other.isEmpty(), true);
    }

    /** The same of a call that answers false. */
    void denied(String call, Twins.House house, Twins.Wish made) {
        refused(call, house, x -> made.of(x) ? 1 : 0, 0);
    }

    void end() {
        due.topic("all sections");
        due.is("asked about all but " + unasked, unasked.isEmpty(), true);
        due.end();
    }
}
