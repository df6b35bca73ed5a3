import java.io.IOException;
import java.nio.file.Path;
import java.util.function.LongSupplier;
import java.util.function.Supplier;
import java.util.function.ToLongFunction;

/** What the tests share: comparing, expecting exceptions, making circles, and telling all of a state. */
final class Check {
    static final int NONE = SavingsCircle.NONE;
    static final Class<? extends RuntimeException> NO_SUCH = IndexOutOfBoundsException.class;
    static final Class<? extends RuntimeException> ARGUMENT = IllegalArgumentException.class;
    static final Class<? extends RuntimeException> STATE = IllegalStateException.class;
    /** For leavesNoTrace: the call is allowed. */
    static final Class<? extends RuntimeException> NOTHING = null;

    private static int wrong = 0;
    private static int checks = 0;
    private static Doc doc = null;
    private static String heading = "";

    private Check() {
    }

    /** .ci/run tells every test where the class and the document stand. */
    static void readDocument(String[] args) throws IOException {
        if (args.length < 2) {
            throw new IOException("the second argument has to be the document's path");
        }
        doc = new Doc(Path.of(args[1]));
    }

    /** Names the words of the document that the next checks are for; they have to stand in that section. */
    static void says(int section, String words) {
        heading = "\"" + words + "\" (" + section + "): ";
        checks++;
        if (!doc.says(section, words)) {
            wrong++;
            System.out.println(heading + "the document does not say so there");
        }
    }

    static void due(String what, long got, long want) {
        checks++;
        if (got != want) {
            wrong++;
            System.out.println(heading + what + " answered " + got + ", due is " + want);
        }
    }

    static void same(String what, String got, String want) {
        checks++;
        if (!got.equals(want)) {
            wrong++;
            System.out.println(heading + what + ":\n" + firstDifference(got.split("\n"), want.split("\n")));
        }
    }

    private static String firstDifference(String[] got, String[] want) {
        int at = 0;
        while (at < got.length && at < want.length && got[at].equals(want[at])) {
            at++;
        }
        return "  got " + (at < got.length ? got[at] : "less") + "\n  due " + (at < want.length ? want[at] : "less");
    }

    /** The call throws exactly this exception, and changes nothing that can be asked. */
    static void refused(SavingsCircle x, String what, Class<? extends RuntimeException> due, LongSupplier call) {
        String before = all(x);
        thrown(what, due, x, same -> call.getAsLong());
        same(what + " must change nothing", all(x), before);
    }

    /**
     * The call throws exactly this exception (or none, if none is due), and leaves no trace at all:
     * afterwards the circle is like a twin that has not seen the call, also in its text, in the
     * states that undo takes back, and in its save slots.
     */
    static void leavesNoTrace(String what, Class<? extends RuntimeException> due,
            Supplier<SavingsCircle> making, ToLongFunction<SavingsCircle> call) {
        SavingsCircle x = making.get();
        thrown(what, due, x, call);
        same(what + " must leave no trace", everything(x), everything(making.get()));
    }

    private static void thrown(String what, Class<? extends RuntimeException> due,
            SavingsCircle x, ToLongFunction<SavingsCircle> call) {
        checks++;
        Class<?> thrown = null;
        try {
            call.applyAsLong(x);
        } catch (RuntimeException e) {
            thrown = e.getClass();
        }
        if (thrown != due) {
            wrong++;
            System.out.println(heading + what + " threw " + thrown + ", due is " + due);
        }
    }

    static String all(SavingsCircle x) {
        StringBuilder s = new StringBuilder();
        for (int what = 0; what <= 8; what++) {
            s.append(x.about(what)).append(' ');
        }
        int n = x.about(0);
        for (int i = 0; i < n; i++) {
            s.append('|');
            for (int what = 0; what <= 10; what++) {
                s.append(x.member(i, what)).append(' ');
            }
            for (int j = 0; j < n; j++) {
                s.append(i == j ? "- " : x.owes(i, j) + " ");
            }
        }
        return s.append("text ").append(x.errorPosition()).toString();
    }

    /** All that a circle holds, which is used up by that. */
    static String everything(SavingsCircle x) {
        StringBuilder s = new StringBuilder(all(x));
        for (int left = undone(x); left != NONE; left = undone(x)) {
            s.append("\n    undo, then ").append(left).append(" left: ").append(all(x));
        }
        for (int slot = 0; slot < 2; slot++) {
            s.append("\n    slot ").append(slot).append(": ").append(restored(x, slot) ? all(x) : "empty");
        }
        if (x.errorPosition() == NONE) {
            x.load();
            s.append("\n    loaded: ").append(all(x));
        }
        return s.append("\n    text of ").append(x.clearText()).toString();
    }

    private static int undone(SavingsCircle x) {
        try {
            return x.undo();
        } catch (IllegalStateException e) {
            return NONE;
        }
    }

    private static boolean restored(SavingsCircle x, int slot) {
        try {
            x.restore(slot);
            return true;
        } catch (IllegalStateException e) {
            return false;
        }
    }

    /** How many states are remembered; they are used up by that. */
    static int countRemembered(SavingsCircle x) {
        int count = 0;
        for (int left = undone(x); left != NONE; left = undone(x)) {
            count++;
        }
        return count;
    }

    static SavingsCircle circle(String text) {
        SavingsCircle x = new SavingsCircle();
        write(x, text);
        x.load();
        return x;
    }

    static void write(SavingsCircle x, String text) {
        x.clearText();
        for (int k = 0; k < text.length(); k++) {
            x.append(text.charAt(k));
        }
    }

    static void months(SavingsCircle x, int n) {
        for (int k = 0; k < n; k++) {
            x.month();
        }
    }

    static void end() {
        System.out.println(wrong == 0 ? checks + " checks, all as due" : wrong + " of " + checks + " checks are not as due");
        if (wrong != 0) {
            System.exit(1);
        }
    }
}
