import java.io.IOException;
import java.nio.file.DirectoryStream;
import java.nio.file.Files;
import java.nio.file.Path;
import java.util.Set;
import java.util.TreeSet;
import java.util.regex.Matcher;
import java.util.regex.Pattern;

/** Each section of the document is tested sentence by sentence in one of the tests named after edges. */
public final class SentencesTest {
    public static void main(String[] args) throws IOException {
        Path source = Path.of(System.getProperty("project.source", "src/main/java/MoonFerryOffice.java"));
        Path tests = source.resolveSibling(Path.of("..", "..", "test", "java")).normalize();
        Set<String> tested = new TreeSet<>();
        try (DirectoryStream<Path> files = Files.newDirectoryStream(tests, "*EdgesTest.java")) {
            for (Path file : files) {
                Matcher section = Pattern.compile("section\\(\"([^\"]+)\"\\)").matcher(Files.readString(file));
                while (section.find()) {
                    Check.due("tested once: " + section.group(1), tested.add(section.group(1)), true);
                }
            }
        }
        Check.due("sections", tested, new TreeSet<>(Document.sections().keySet()));
        Check.due("promises and headings", tested.size(), 61 + 12);
        Check.end();
    }
}
