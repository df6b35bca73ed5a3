import java.io.IOException;
import java.lang.reflect.Constructor;
import java.lang.reflect.Field;
import java.lang.reflect.Method;
import java.lang.reflect.Modifier;
import java.nio.file.Files;
import java.nio.file.Path;
import java.util.Set;
import java.util.TreeSet;

/** The face is the document's, and the source keeps clear of what LANGUAGE.md rules out by name. */
final class FaceTest {
    private static final String[] METHODS = {
        "int append(int)", "int clearText()", "int errorPosition()", "int load()", "int about(int)",
        "int member(int,int)", "int owes(int,int)", "int chain(int)", "int rate(int)", "int addMember(int)",
        "int setContribution(int)", "int setGuarantor(int,int)", "int bid(int,int)", "boolean stayAway(int,boolean)",
        "int give(int,int)", "int month()", "int leave(int)", "int repay(int,int)", "int undo()", "int winner()",
        "int pot()", "int change(int)", "int leastBid(int)", "int pillar()", "int when(int)", "int inTheEnd(int)",
        "int runScript(int,long)", "int simulate(long,int)", "int save(int)", "int restore(int)"};
    private static final String[] RULED_OUT = {
        "import ", "->", "::", "finally", "synchronized", "assert ", "Exact(", "catch", "System.", "Float.", "Math.random"};

    public static void main(String[] args) throws IOException {
        face();
        nested();
        if (args.length > 0) {
            source(Files.readString(Path.of(args[0])));
        }
        Check.end();
    }

    private static void face() {
        Class<?> c = SavingsCircle.class;
        Check.due("public and final", c.getModifiers(), Modifier.PUBLIC | Modifier.FINAL);
        Set<String> names = new TreeSet<>();
        for (Method m : c.getDeclaredMethods()) {
            String face = m.getReturnType() + " " + m.getName() + "(";
            for (Class<?> type : m.getParameterTypes()) {
                face += (face.endsWith("(") ? "" : ",") + type;
            }
            if (!Modifier.isPrivate(m.getModifiers())) {
                Check.due(face + ") is public only", m.getModifiers(), Modifier.PUBLIC);
                names.add(face + ")");
            }
        }
        Check.same("the methods", names.toString(), new TreeSet<>(Set.of(METHODS)).toString());
        for (Field f : c.getDeclaredFields()) {
            boolean none = f.getName().equals("NONE");
            Check.due(f.getName() + " is private", Modifier.isPrivate(f.getModifiers()) ? 1 : 0, none ? 0 : 1);
        }
        Constructor<?>[] all = c.getDeclaredConstructors();
        Check.due("constructors", all.length, 1);
        Check.due("the constructor is public", all[0].getModifiers(), Modifier.PUBLIC);
    }

    private static void nested() {
        Set<String> face = new TreeSet<>();
        for (String method : METHODS) {
            face.add(method.substring(method.indexOf(' ') + 1, method.indexOf('(')));
        }
        for (Class<?> c : SavingsCircle.class.getDeclaredClasses()) {
            for (Method m : c.getDeclaredMethods()) {
                Check.due(m + " bears a name of the face", face.contains(m.getName()) ? 1 : 0, 0);
            }
            Check.due(c + " has some twenty fields", c.getDeclaredFields().length <= 20 ? 1 : 0, 1);
        }
    }

    private static void source(String text) {
        for (String word : RULED_OUT) {
            Check.due("'" + word + "' stands in the source at", text.indexOf(word), -1);
        }
    }
}
