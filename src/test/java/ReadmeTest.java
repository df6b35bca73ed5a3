import java.io.IOException;
import java.nio.file.Files;
import java.nio.file.Path;
import java.util.List;
import java.util.Map;
import java.util.regex.Matcher;
import java.util.regex.Pattern;

/**
 * What README.md says of the use of the class holds: each of its examples is compiled and run as it
 * stands there, and each call that has a comment behind it answers what the comment begins with.
 */
final class ReadmeTest {
    private static final Pattern EXAMPLE = Pattern.compile("```java\n(.*?)```", Pattern.DOTALL);
    private static final Pattern ANSWER = Pattern.compile("\\s*(.+); *// (NONE|true|false|-?[0-9]+(?:\\.[0-9]+)?|throws [A-Za-z]+)(?:: .*)?");

    public static void main(String[] args) throws IOException, InterruptedException {
        Check.readDocument(args);
        String readme = Files.readString(Path.of("README.md"));
        groups(readme, new Doc(Path.of(args[1])));
        Check.due("README.md tells how the tests are run", readme.contains("\n    .ci/run\n") ? 1 : 0, 1);
        Check.end();
        run(readme, args);
    }

    /** For each group of calls there is an example, in which each call of the group is used. */
    private static void groups(String readme, Doc doc) {
        Check.says(0, "Ahead of the calls `append`, `clearText`, `errorPosition`, `load` the interface says: ---- text.");
        Check.says(0, "Ahead of the calls `about`, `member`, `owes`, `chain`, `rate` the interface says: ---- what there is.");
        Check.says(0, "Ahead of the calls `addMember`, `setContribution`, `setGuarantor`, `bid`, `stayAway`, `give`, `month`, `leave`, `repay`, `undo` the interface says: ---- actions.");
        Check.says(0, "Ahead of the calls `winner`, `pot`, `change`, `leastBid`, `pillar`, `when`, `inTheEnd` the interface says: ---- what would be");
        Check.says(0, "Ahead of the calls `runScript`, `simulate` the interface says: ---- scripts, simulations.");
        Check.says(0, "Ahead of the calls `save`, `restore` the interface says: ---- save slots.");
        int calls = 0;
        for (Map.Entry<String, List<String>> group : doc.groups().entrySet()) {
            String example = exampleOf(readme, group.getKey());
            for (String call : group.getValue()) {
                Check.due("README.md, " + group.getKey() + ": " + call + " is used", example.contains("x." + call + "(") ? 1 : 0, 1);
                calls++;
            }
        }
        Check.due("calls of all groups", calls, 30);
        Check.due("README.md, how an object is made", readme.indexOf("new SavingsCircle()") > 0 ? 1 : 0, 1);
    }

    private static String exampleOf(String readme, String group) {
        int from = readme.toLowerCase().indexOf("\n### " + group + "\n");
        Check.due("README.md has a section for \"" + group + "\"", from >= 0 ? 1 : 0, 1);
        int next = readme.indexOf("\n#", from + 1);
        Matcher m = EXAMPLE.matcher(readme.substring(Math.max(from, 0), next < 0 ? readme.length() : next));
        return from >= 0 && m.find() ? m.group(1) : "";
    }

    private static void run(String readme, String[] args) throws IOException, InterruptedException {
        StringBuilder program = new StringBuilder("final class Examples {\n    public static void main(String[] args) {\n");
        Matcher m = EXAMPLE.matcher(readme);
        while (m.find()) {
            program.append("{\n");
            for (String line : m.group(1).split("\n")) {
                program.append(line.contains("//") ? asked(line) : line).append('\n');
            }
            program.append("}\n");
        }
        program.append("Check.end();\n    }\n}\n");
        Build build = new Build(args, "readme");
        Path tests = Path.of("src/test/java");
        build.compile(List.of(build.write("Examples", program.toString()), Path.of(args[0]), tests.resolve("Check.java"), tests.resolve("Doc.java")));
        build.run("Examples");
    }

    private static String asked(String line) throws IOException {
        Matcher m = ANSWER.matcher(line);
        if (!m.matches()) {
            throw new IOException("README.md: no answer stands behind the call in: " + line);
        }
        String call = m.group(1);
        String due = m.group(2).equals("NONE") ? "\"\" + SavingsCircle.NONE" : "\"" + m.group(2) + "\"";
        return "{ String got; try { got = \"\" + " + call + "; } catch (RuntimeException e) { got = \"throws \" + e.getClass().getSimpleName(); }"
            + " Check.same(\"README.md: " + call.replace("\\", "\\\\").replace("\"", "\\\"") + "\", got, " + due + "); }";
    }
}
