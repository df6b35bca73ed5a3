import java.io.IOException;
import java.lang.reflect.Constructor;
import java.lang.reflect.Field;
import java.lang.reflect.Method;
import java.lang.reflect.Modifier;
import java.nio.file.Files;
import java.nio.file.Path;
import java.util.ArrayList;
import java.util.List;
import java.util.Set;
import java.util.TreeSet;

/** The face is the document's, and the source keeps clear of what LANGUAGE.md rules out by name. */
final class FaceTest {
    private static final String[] RULED_OUT = {
        "import ", "->", "::", "finally", "synchronized", "assert ", "Exact(", "catch", "System.", "Float.", "Math.random"};

    public static void main(String[] args) throws IOException {
        Check.readDocument(args);
        Doc doc = new Doc(Path.of(args[1]));
        face(doc);
        promises(doc);
        none();
        onlyTheFace();
        nested();
        source(Files.readString(Path.of(args[0])));
        Check.end();
    }

    /** Types, names and exceptions, in the document's words but for the names of the parameters. */
    private static void face(Doc doc) {
        Set<String> due = new TreeSet<>();
        for (String line : doc.face()) {
            due.add(line.replaceAll("(int|long|boolean) [a-z]+(?=[,)])", "$1").replaceAll(" = .*|;| \\{", ""));
        }
        Set<String> got = new TreeSet<>();
        Class<?> c = SavingsCircle.class;
        got.add(Modifier.toString(c.getModifiers()) + " class " + c.getSimpleName());
        for (Field f : c.getDeclaredFields()) {
            if (!Modifier.isPrivate(f.getModifiers())) {
                got.add(Modifier.toString(f.getModifiers()) + " " + f.getType() + " " + f.getName());
            }
        }
        for (Constructor<?> k : c.getDeclaredConstructors()) {
            got.add(Modifier.toString(k.getModifiers()) + " " + k.getName() + names("(", k.getParameterTypes()) + ")");
        }
        for (Method m : c.getDeclaredMethods()) {
            if (!Modifier.isPrivate(m.getModifiers())) {
                got.add(Modifier.toString(m.getModifiers()) + " " + m.getReturnType() + " " + m.getName()
                    + names("(", m.getParameterTypes()) + ")" + (m.getExceptionTypes().length > 0 ? names(" throws ", m.getExceptionTypes()) : ""));
            }
        }
        Check.same("the face", String.join("\n", got), String.join("\n", due));
        Check.due("class, constant, constructor and methods", due.size(), 33);
    }

    private static String names(String ahead, Class<?>[] types) {
        List<String> names = new ArrayList<>();
        for (Class<?> type : types) {
            names.add(type.getSimpleName());
        }
        return ahead + String.join(", ", names);
    }

    /** Each promise is about one line of the face, in their order: the constructor, then the methods. */
    private static void promises(Doc doc) {
        List<String> face = doc.face();
        for (int promise = 1; promise <= Doc.PROMISES; promise++) {
            Check.same("promise " + promise, "public " + doc.signature(promise) + ";", face.get(1 + promise));
        }
    }

    private static void none() {
        Check.says(0, "The constants: `NONE = -99999`: There is no such result.");
        Check.due("NONE", SavingsCircle.NONE, -99999);
    }

    private static void onlyTheFace() {
        for (Field f : SavingsCircle.class.getDeclaredFields()) {
            boolean constant = Modifier.isStatic(f.getModifiers());
            Check.due(f.getName() + ": static fields are final", constant && !Modifier.isFinal(f.getModifiers()) ? 1 : 0, 0);
        }
    }

    private static void nested() {
        Set<String> face = new TreeSet<>();
        for (Method m : SavingsCircle.class.getMethods()) {
            if (m.getDeclaringClass() == SavingsCircle.class) {
                face.add(m.getName());
            }
        }
        Check.due("methods of the face", face.size(), 30);
        for (Class<?> c : SavingsCircle.class.getDeclaredClasses()) {
            for (Method m : c.getDeclaredMethods()) {
                Check.due(m + " bears a name of the face", face.contains(m.getName()) ? 1 : 0, 0);
            }
            Check.due(c + " has some twenty fields", c.getDeclaredFields().length <= 20 ? 1 : 0, 1);
        }
    }

    private static void source(String text) {
        for (String word : RULED_OUT) {
            Check.due("'" + word + "' stands in the source at", text.indexOf(word), -1);
        }
    }
}
