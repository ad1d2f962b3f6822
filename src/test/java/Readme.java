import java.io.IOException;
import java.nio.file.Files;
import java.nio.file.Path;
import java.util.ArrayList;
import java.util.List;

/** README.md, by the parts that tests hold it to. */
final class Readme {
    private final List<String> lines;

    Readme(String path) throws IOException {
        lines = Files.readAllLines(Path.of(path));
    }

    /** The lines of a section: from its heading to the next one that is not below it. */
    private List<String> section(String heading) {
        List<String> found = new ArrayList<>();
        boolean isIn = false;
        boolean isCode = false;
        for (String line : lines) {
            isCode ^= line.startsWith("```");
            if (!isCode && (line.startsWith("# ") || line.startsWith("## "))) {
                isIn = line.equals("## " + heading);
            } else if (isIn) {
                found.add(line);
            }
        }
        return found;
    }

    /** The Java code of a section, line by line. */
    List<String> code(String heading) {
        List<String> code = new ArrayList<>();
        boolean isJava = false;
        for (String line : section(heading)) {
            if (line.startsWith("```")) {
                isJava = line.equals("```java");
            } else if (isJava) {
                code.add(line);
            }
        }
        return code;
    }

    /** The paragraphs that a section quotes. */
    List<String> quotes(String heading) {
        List<String> quotes = new ArrayList<>();
        for (String line : section(heading)) {
            if (line.startsWith("> ")) {
                quotes.add(line.substring(2));
            }
        }
        return quotes;
    }

    /** The rows of a section's tables that begin with code, cell by cell. */
    List<String[]> rows(String heading) {
        List<String[]> rows = new ArrayList<>();
        for (String line : section(heading)) {
            if (line.startsWith("| `") && line.endsWith(" |")) {
                rows.add(line.substring(2, line.length() - 2).split(" \\| ", -1));
            }
        }
        return rows;
    }
}
