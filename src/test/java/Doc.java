import java.io.IOException;
import java.nio.file.Files;
import java.nio.file.Path;
import java.util.ArrayList;
import java.util.LinkedHashMap;
import java.util.List;
import java.util.Map;
import java.util.regex.Matcher;
import java.util.regex.Pattern;

/** The words of the document, by section: 0 is what stands ahead of promise 1, n is promise n. */
final class Doc {
    static final int PROMISES = 31;
    private static final Pattern FACE = Pattern.compile("```java\n(.*?)```\n", Pattern.DOTALL);
    private static final Pattern GROUP = Pattern.compile("Ahead of the calls (.*) the interface says: ---- ([a-z ,]+)[.;].*");

    private final String[] raw = new String[PROMISES + 1];
    private final String[] sections = new String[PROMISES + 1];

    Doc(Path file) throws IOException {
        String text = Files.readString(file);
        int from = 0;
        for (int n = 0; n <= PROMISES; n++) {
            String next = n < PROMISES ? "\n## Promise " + (n + 1) + ":" : "\n## Not promised";
            int end = text.indexOf(next, from);
            if (end < 0) {
                throw new IOException("the document has no section" + next);
            }
            raw[n] = text.substring(from, end);
            sections[n] = sentences(raw[n]);
            from = end + 1;
        }
    }

    /** Without headings, the face and signatures (FaceTest sees to them), the numbers of a list, and line breaks. */
    private static String sentences(String section) {
        String text = FACE.matcher(section).replaceAll("").replace("```text\n", "").replace("```\n", "");
        text = text.replaceAll("(?m)^#.*$", "").replaceAll("(?m)^[A-Z ]+$", "");
        text = text.replaceAll("(?m)^[0-9]\\. ", "").replaceAll("(?m)^`[^`]*\\)[^`]*`: ", "");
        return plain(text);
    }

    private static String plain(String text) {
        return text.replaceAll("\\s+", " ").trim();
    }

    boolean says(int section, String words) {
        return section >= 0 && section <= PROMISES && sections[section].contains(plain(words));
    }

    /** What is left of a section when these words are taken out of it: nothing, if all of it is among them. */
    String leftWithout(int section, List<String> allWords) {
        char[] left = sections[section].toCharArray();
        for (String words : allWords) {
            String some = plain(words);
            for (int at = sections[section].indexOf(some); at >= 0; at = sections[section].indexOf(some, at + 1)) {
                java.util.Arrays.fill(left, at, at + some.length(), ' ');
            }
        }
        return plain(new String(left).replaceAll("[^A-Za-z0-9]+", " "));
    }

    /** The lines of a promise that tell when it throws. */
    List<String> refusals(int promise) {
        return linesOf(raw[promise], "Throws ");
    }

    /** The lines of the public face, as they stand there. */
    List<String> face() {
        Matcher m = FACE.matcher(raw[0]);
        return m.find() ? linesOf(m.group(1), "public ") : new ArrayList<>();
    }

    /** What stands behind "public" in the face, as the promise repeats it. */
    String signature(int promise) {
        Matcher m = Pattern.compile("(?m)^`([^`]*\\)[^`]*)`: ").matcher(raw[promise]);
        return m.find() ? m.group(1) : "";
    }

    /** The groups of calls, by the words that stand ahead of them. */
    Map<String, List<String>> groups() {
        Map<String, List<String>> groups = new LinkedHashMap<>();
        for (String line : linesOf(raw[0], "Ahead of the calls ")) {
            Matcher m = GROUP.matcher(line);
            if (m.matches()) {
                groups.put(m.group(2), List.of(m.group(1).replace("`", "").split(", ")));
            }
        }
        return groups;
    }

    private static List<String> linesOf(String text, String beginning) {
        List<String> found = new ArrayList<>();
        for (String line : text.split("\n")) {
            if (plain(line).startsWith(beginning)) {
                found.add(plain(line));
            }
        }
        return found;
    }
}
