import java.io.IOException;
import java.nio.file.DirectoryStream;
import java.nio.file.Files;
import java.nio.file.Path;
import java.util.ArrayList;
import java.util.List;
import java.util.TreeSet;
import java.util.regex.Matcher;
import java.util.regex.Pattern;

/**
 * What a call behind the 512th of an object answers is free, and so no test may ask for it: each test
 * passes also with a class that differs from the true one in that such a call ends the run.
 */
final class CallsTest {
    private static final Path TESTS = Path.of("src/test/java");
    private static final Pattern METHOD = Pattern.compile("(?m)^    public (?:int|boolean) [a-zA-Z]+\\([^)]*\\)[^{\n]*\\{");
    private static final String COUNTER = "\n    private int callsSoFar;\n\n    private void countCall() {\n        callsSoFar++;\n"
        + "        if (callsSoFar > 512) {\n            throw new Error(\"a test asks for a call behind the 512th\");\n        }\n    }\n}\n";

    public static void main(String[] args) throws IOException, InterruptedException {
        Check.readDocument(args);
        Check.says(0, "An object is used for at most 512 calls after it has been made; what later calls answer is free.");
        Build build = new Build(args, "calls");
        List<Path> files = new ArrayList<>(List.of(build.write("SavingsCircle", counting(Files.readString(Path.of(args[0]))))));
        TreeSet<String> tests = new TreeSet<>();
        try (DirectoryStream<Path> all = Files.newDirectoryStream(TESTS, "*.java")) {
            for (Path file : all) {
                files.add(file);
                String name = file.getFileName().toString().replace(".java", "");
                if (name.endsWith("Test") && !name.equals("CallsTest") && !name.equals("ReadmeTest")) {
                    tests.add(name);
                }
            }
        }
        build.compile(files);
        for (String test : tests) {
            System.out.println(test + ", with a counting class:");
            build.run(test, args);
        }
        Check.due("there are tests", tests.isEmpty() ? 0 : 1, 1);
        Check.end();
    }

    private static String counting(String source) {
        Matcher methods = METHOD.matcher(source);
        Check.due("methods of the face", methods.results().count(), 30);
        String counted = methods.reset().replaceAll("$0 countCall();");
        return counted.substring(0, counted.lastIndexOf('}')) + COUNTER;
    }
}
