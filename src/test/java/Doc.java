import java.io.IOException;
import java.nio.file.Files;
import java.nio.file.Path;
import java.util.ArrayList;
import java.util.List;

/** The words of the document, by section: 0 are the terms, n is promise n. */
final class Doc {
    static final int PROMISES = 31;

    private final String[] sections = new String[PROMISES + 1];
    private final List<List<String>> lines = new ArrayList<>();

    Doc(Path file) throws IOException {
        String text = Files.readString(file);
        int from = 0;
        for (int n = 0; n <= PROMISES; n++) {
            String next = n < PROMISES ? "\n## Promise " + (n + 1) + ":" : "\n## Not promised";
            int end = text.indexOf(next, from);
            if (end < 0) {
                throw new IOException("the document has no section" + next);
            }
            String section = text.substring(from, end);
            sections[n] = plain(section);
            lines.add(linesOf(section));
            from = end + 1;
        }
    }

    /** Line breaks and the fences round indented lines do not matter. */
    private static String plain(String text) {
        return text.replaceAll("```(text|java)?\n", " ").replaceAll("\\s+", " ").trim();
    }

    private static List<String> linesOf(String section) {
        List<String> all = new ArrayList<>();
        for (String line : section.split("\n")) {
            all.add(plain(line));
        }
        return all;
    }

    boolean says(int section, String words) {
        return section >= 0 && section <= PROMISES && sections[section].contains(plain(words));
    }

    /** The lines of a promise that tell when it throws. */
    List<String> refusals(int promise) {
        List<String> found = new ArrayList<>();
        for (String line : lines.get(promise)) {
            if (line.startsWith("Throws ")) {
                found.add(line);
            }
        }
        return found;
    }
}
