import java.io.IOException;
import java.nio.file.Files;
import java.nio.file.Path;
import java.util.LinkedHashMap;
import java.util.Map;

/** ../shared/DOC.md by its headings, with every run of blanks as one blank. */
final class Document {
    private static final Path FILE = Path.of("../shared/DOC.md");

    private final Map<String, String> sections = new LinkedHashMap<>();

    Document() throws IOException {
        String heading = "";
        StringBuilder words = new StringBuilder();
        for (String line : Files.readAllLines(FILE)) {
            if (line.startsWith("#")) {
                sections.put(heading, words.toString().replaceAll("\\s+", " "));
                heading = line.replaceAll("^#+ *", "");
                words.setLength(0);
            } else {
                words.append(line).append('\n');
            }
        }
        sections.put(heading, words.toString().replaceAll("\\s+", " "));
    }

    static boolean isThere() {
        return Files.exists(FILE);
    }

    Iterable<String> headings() {
        return sections.keySet();
    }

    String under(String heading) {
        return sections.getOrDefault(heading, "");
    }
}
