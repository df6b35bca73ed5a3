import java.io.File;
import java.io.IOException;
import java.lang.reflect.InvocationTargetException;
import java.lang.reflect.Method;
import java.net.URL;
import java.net.URLClassLoader;
import java.nio.file.Files;
import java.nio.file.Path;
import java.util.ArrayList;
import java.util.List;
import javax.tools.JavaCompiler;
import javax.tools.ToolProvider;

/** Compiles and runs Java that a test has put together, in a directory of its own. */
final class Build {
    private final Path directory;

    /** .ci/run tells every test, as the third argument, where it may write. */
    Build(String[] args, String name) throws IOException {
        if (args.length < 3) {
            throw new IOException("the third argument has to be a directory for what is built");
        }
        directory = Path.of(args[2], name);
        Files.createDirectories(directory);
    }

    Path write(String name, String source) throws IOException {
        return Files.writeString(directory.resolve(name + ".java"), source);
    }

    void compile(List<Path> files, String... classPath) throws IOException {
        JavaCompiler javac = ToolProvider.getSystemJavaCompiler();
        if (javac == null) {
            throw new IOException("this Java has no compiler");
        }
        List<String> words = new ArrayList<>(List.of("-encoding", "UTF-8", "--release", "17", "-d", directory.toString()));
        words.add("-cp");
        words.add(classPath.length > 0 ? String.join(File.pathSeparator, classPath) : directory.toString());
        for (Path file : files) {
            words.add(file.toString());
        }
        if (javac.run(null, null, null, words.toArray(new String[0])) != 0) {
            throw new IOException(directory + ": what is written there does not compile");
        }
    }

    /** Runs the main method of a class that has been compiled there, apart from the classes of this run. */
    void run(String name, String... args) throws IOException, ReflectiveOperationException {
        URL[] place = {directory.toUri().toURL()};
        try (URLClassLoader loader = new URLClassLoader(place, ClassLoader.getPlatformClassLoader())) {
            Method main = loader.loadClass(name).getDeclaredMethod("main", String[].class);
            main.setAccessible(true);
            main.invoke(null, (Object) args);
        } catch (InvocationTargetException e) {
            throw new IOException(name + " ended with " + e.getCause(), e.getCause());
        }
    }
}
