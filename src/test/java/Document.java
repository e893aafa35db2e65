import java.io.IOException;
import java.nio.file.Files;
import java.nio.file.Path;
import java.util.ArrayList;
import java.util.LinkedHashMap;
import java.util.List;
import java.util.Map;

/**
 * The sentences of ../shared/DOC.md that runs have to show, by their section: "Description" or the
 * number of a promise. What stands before the description counts as a part of it.
 */
final class Document {
    private static final Path FILE = Path.of("../shared/DOC.md");
    private static final String DESCRIPTION = "Description";
    private static final String OVERVIEW = "What it is";
    // They tell nothing that a call could break.
    private static final List<String> WITHOUT_CALLS = List.of("Whole numbers.", "Four tables",
            "The constructor and the methods follow");

    private final Map<String, List<String>> sentences = new LinkedHashMap<>();
    private String section = "";

    Document() throws IOException {
        for (String line : Files.readAllLines(FILE)) {
            read(line.replace("`", "").strip());
        }
    }

    private void read(String line) {
        if (line.startsWith("## ")) {
            section = sectionOf(line.substring(3));
        } else if (section.equals(DESCRIPTION)) {
            readDescription(line);
        } else if (!section.isEmpty() && isToShow(line)) {
            add(line);
        }
    }

    private static String sectionOf(String heading) {
        if (heading.startsWith("Promise ")) {
            return heading.substring("Promise ".length(), heading.indexOf(':'));
        }
        return heading.equals(DESCRIPTION) || heading.equals(OVERVIEW) ? DESCRIPTION : "";
    }

    private void readDescription(String line) {
        if (line.isEmpty() || line.startsWith("==")) {
            return;
        }
        for (String sentence : line.split("(?<=\\.|\\.\\)) (?=[-A-Z(])")) {
            if (WITHOUT_CALLS.stream().noneMatch(sentence::startsWith)) {
                add(sentence);
            }
        }
    }

    /** All but the headings, the signature and those arguments of which no number is told. */
    private static boolean isToShow(String line) {
        boolean isSignature = line.contains("(int ") || line.endsWith("()");
        boolean isPlainArgument = line.startsWith("- ") && !line.matches(".*[0-9(].*");
        return !line.isEmpty() && !line.startsWith("----") && !isSignature && !isPlainArgument;
    }

    private void add(String sentence) {
        sentences.computeIfAbsent(section, s -> new ArrayList<>()).add(sentence);
    }

    Map<String, List<String>> sentences() {
        return sentences;
    }
}
