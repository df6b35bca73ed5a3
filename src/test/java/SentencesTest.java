import java.io.IOException;
import java.nio.file.DirectoryStream;
import java.nio.file.Files;
import java.nio.file.Path;
import java.util.ArrayList;
import java.util.List;
import java.util.regex.Matcher;
import java.util.regex.Pattern;

/**
 * Each sentence of the document, up to the last promise, is named by a test; each line that tells
 * when a call throws is named as a whole by a test of boundary cases.
 */
final class SentencesTest {
    private static final Pattern SAYS = Pattern.compile("Check\\.says\\(([0-9]+), \"((?:[^\"\\\\]|\\\\.)*)\"\\)");
    private static final Path TESTS = Path.of("src/test/java");

    public static void main(String[] args) throws IOException {
        Check.readDocument(args);
        Doc doc = new Doc(Path.of(args[1]));
        List<List<String>> named = named("*Test.java");
        List<List<String>> edges = named("*EdgesTest.java");
        for (int section = 0; section <= Doc.PROMISES; section++) {
            Check.same("what no test names of section " + section, doc.leftWithout(section, named.get(section)), "");
        }
        for (int promise = 1; promise <= Doc.PROMISES; promise++) {
            Check.due("promise " + promise + " has a test of boundary cases", edges.get(promise).isEmpty() ? 0 : 1, 1);
            for (String line : doc.refusals(promise)) {
                Check.due("promise " + promise + ", \"" + line + "\" is named", edges.get(promise).contains(line) ? 1 : 0, 1);
            }
        }
        Check.end();
    }

    private static List<List<String>> named(String tests) throws IOException {
        List<List<String>> named = new ArrayList<>();
        for (int section = 0; section <= Doc.PROMISES; section++) {
            named.add(new ArrayList<>());
        }
        try (DirectoryStream<Path> files = Files.newDirectoryStream(TESTS, tests)) {
            for (Path file : files) {
                Matcher m = SAYS.matcher(Files.readString(file));
                while (m.find()) {
                    named.get(Integer.parseInt(m.group(1))).add(m.group(2).replace("\\\"", "\""));
                }
            }
        }
        return named;
    }
}
