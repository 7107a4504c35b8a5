import java.io.IOException;
import java.nio.file.Files;
import java.nio.file.Path;
import java.util.ArrayList;
import java.util.LinkedHashMap;
import java.util.List;
import java.util.Map;

/**
 * The sentences of the document by its sections, one entry for each part between semicolons. Each heading of
 * the section "Terms" makes a section of its own, such as "Terms: Tides".
 */
final class Document {
    private static final String HEADING = "(Craters and channels|Tides|Ferries|Earliest hours|Moons|Loads"
            + "|Refusals|Hours|Rescues|Commands|Changes|Exceptions)\\.";
    private static final String BARE_PARAMETER =
            "`\\w+`: the (number of the [a-z ]+|character|index of the character)";

    private final Map<String, List<String>> sections = new LinkedHashMap<>();
    private String title = "";

    private Document() {
    }

    static Map<String, List<String>> sections() {
        Document document = new Document();
        for (String line : text().split("\n")) {
            document.read(line.trim());
        }
        return document.sections;
    }

    private static String text() {
        try {
            return Files.readString(Path.of("../shared/DOC.md"));
        } catch (IOException e) {
            throw new IllegalStateException(e);
        }
    }

    private void read(String line) {
        if (line.startsWith("## ")) {
            title = line.substring(3);
            return;
        }
        boolean counts = title.startsWith("Promise ") || title.startsWith("Terms");
        if (!counts || line.startsWith("```") || line.startsWith("Ahead of the calls")) {
            return;
        }
        String text = line.replaceFirst("^- ", "").replaceFirst("^`[^`]*\\)[^`]*`: ", "");
        String[] parts = text.startsWith("command = ")
                ? text.substring("command = ".length()).split(" \\| ")
                : text.split("(?<=\\.) (?=[A-Z])|(?<=;) (?=[a-z0-9])");
        for (String part : parts) {
            add(part);
        }
    }

    // A parameter that any number can be given for says nothing that can be tested.
    private void add(String part) {
        if (title.startsWith("Terms") && part.matches(HEADING)) {
            title = "Terms: " + part.substring(0, part.length() - 1);
        } else if (!part.isEmpty() && !part.matches(BARE_PARAMETER)) {
            sections.computeIfAbsent(title, t -> new ArrayList<>()).add(part);
        }
    }
}
