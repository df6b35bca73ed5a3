import java.io.IOException;
import java.nio.file.DirectoryStream;
import java.nio.file.Files;
import java.nio.file.Path;
import java.util.ArrayList;
import java.util.List;
import java.util.regex.Matcher;
import java.util.regex.Pattern;

/** Every line of the document that tells when a call throws is named by a test of its own. */
final class SentencesTest {
    private static final Pattern SAYS = Pattern.compile("Check\\.says\\(([0-9]+), \"((?:[^\"\\\\]|\\\\.)*)\"\\)");
    private static final Path TESTS = Path.of("src/test/java");

    public static void main(String[] args) throws IOException {
        Check.readDocument(args);
        Doc doc = new Doc(Path.of(args[1]));
        List<List<String>> named = named();
        for (int promise = 1; promise <= Doc.PROMISES; promise++) {
            Check.due("promise " + promise + " is named", named.get(promise).isEmpty() ? 0 : 1, 1);
            for (String line : doc.refusals(promise)) {
                Check.due("promise " + promise + ", \"" + line + "\" is named", named.get(promise).contains(line) ? 1 : 0, 1);
            }
        }
        Check.end();
    }

    private static List<List<String>> named() throws IOException {
        List<List<String>> named = new ArrayList<>();
        for (int section = 0; section <= Doc.PROMISES; section++) {
            named.add(new ArrayList<>());
        }
        try (DirectoryStream<Path> files = Files.newDirectoryStream(TESTS, "*EdgesTest.java")) {
            for (Path file : files) {
                Matcher m = SAYS.matcher(Files.readString(file));
                while (m.find()) {
                    named.get(Integer.parseInt(m.group(1))).add(m.group(2).replace("\\\"", "\""));
                }
            }
        }
        return named;
    }
}
