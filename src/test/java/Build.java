import java.io.IOException;
import java.nio.file.Files;
import java.nio.file.Path;
import java.util.ArrayList;
import java.util.List;

/** Compiles and runs Java that a test has put together, by javac and java, in a directory of its own. */
final class Build {
    private final Path directory;

    /** .ci/run tells every test, as the third argument, where it may write. */
    Build(String[] args, String name) throws IOException {
        if (args.length < 3) {
            throw new IOException("the third argument has to be a directory for what is built");
        }
        directory = Path.of(args[2], name);
        Files.createDirectories(directory);
    }

    Path write(String name, String source) throws IOException {
        return Files.writeString(directory.resolve(name + ".java"), source);
    }

    void compile(List<Path> files) throws IOException, InterruptedException {
        List<String> words = new ArrayList<>(List.of("javac", "-encoding", "UTF-8", "--release", "17", "-d", directory.toString()));
        for (Path file : files) {
            words.add(file.toString());
        }
        execute(words);
    }

    /** Runs the main method of a class that has been compiled there. */
    void run(String name, String... args) throws IOException, InterruptedException {
        List<String> words = new ArrayList<>(List.of("java", "-cp", directory.toString(), name));
        words.addAll(List.of(args));
        execute(words);
    }

    private static void execute(List<String> words) throws IOException, InterruptedException {
        int end = new ProcessBuilder(words).inheritIO().start().waitFor();
        if (end != 0) {
            throw new IOException(String.join(" ", words) + "\n    ended with exit code " + end);
        }
    }
}
