import java.io.IOException;
import java.nio.file.Files;
import java.nio.file.Path;
import java.util.ArrayList;
import java.util.LinkedHashMap;
import java.util.LinkedHashSet;
import java.util.List;
import java.util.Map;
import java.util.Set;

/** The statements of ../shared/DOC.md by their sections, and which of them a test has told. */
final class Document {
    private static final Path PLACE = Path.of("../shared/DOC.md");
    private static final Set<String> LEFT_OUT = Set.of("Not promised");

    private final Map<String, List<String>> sections = new LinkedHashMap<>();
    private final Set<String> told = new LinkedHashSet<>();
    private String section = "";

    static Document read() {
        Document document = new Document();
        try {
            document.split(Files.readAllLines(PLACE));
        } catch (IOException unreadable) {
            throw new IllegalStateException("there is no " + PLACE, unreadable);
        }
        return document;
    }

    private void split(List<String> document) {
        List<String> statements = new ArrayList<>();
        List<String> lines = withoutCode(document);
        for (String line : lines) {
            boolean hasEnd = line.matches(".*[.:;)]") || line.startsWith("- ") || line.startsWith("Throws ");
            if (line.startsWith("#") || !line.isBlank() && !hasEnd) {
                // Some titles stand on a line of their own without a sign ahead of them.
                statements = new ArrayList<>();
                sections.put(line.replaceFirst("^#+ ", ""), statements);
            } else if (line.startsWith("- ") || line.startsWith("Throws ")) {
                statements.add(line);
            } else if (!line.isBlank()) {
                // The head of a promise stands between backquotes ahead of its first sentence.
                String text = line.replaceFirst("^`[^`]*`: ", "");
                statements.addAll(List.of(text.split("(?<=[.)]) (?=[A-Z(])")));
            }
        }
        sections.keySet().removeAll(LEFT_OUT);
    }

    /** The face stands as code, whose lines are no statements. */
    private static List<String> withoutCode(List<String> lines) {
        int first = lines.indexOf("```java");
        int last = lines.lastIndexOf("```");
        List<String> rest = new ArrayList<>(lines.subList(0, first));
        rest.addAll(lines.subList(last + 1, lines.size()));
        return rest;
    }

    /** Answers whether there is just one section of that title, or beginning with it and a colon. */
    boolean open(String title) {
        List<String> found = sections.keySet().stream()
                .filter(name -> name.equals(title) || name.startsWith(title + ":")).toList();
        section = found.size() == 1 ? found.get(0) : "";
        return found.size() == 1;
    }

    String openSection() {
        return section;
    }

    /** Answers whether the open section says so, and no test has told it yet. */
    boolean tell(String statement) {
        return sections.getOrDefault(section, List.of()).contains(statement) && told.add(section + " | " + statement);
    }

    List<String> untold() {
        List<String> untold = new ArrayList<>();
        sections.forEach((name, statements) -> statements.stream().map(statement -> name + " | " + statement)
                .filter(line -> !told.contains(line)).forEach(untold::add));
        return untold;
    }
}
