import java.io.IOException;
import java.nio.file.Path;
import java.util.function.LongSupplier;
import java.util.function.Supplier;
import java.util.function.ToLongFunction;

/** What the tests share: comparing, expecting exceptions, making circles, and telling all of a state. */
final class Check {
    static final int NONE = SavingsCircle.NONE;
    static final Class<? extends RuntimeException> NO_SUCH = IndexOutOfBoundsException.class;
    static final Class<? extends RuntimeException> ARGUMENT = IllegalArgumentException.class;
    static final Class<? extends RuntimeException> STATE = IllegalStateException.class;
    /** For leavesNoTrace: the call is allowed. */
    static final Class<? extends RuntimeException> NOTHING = null;

    private static int wrong = 0;
    private static int checks = 0;
    private static Doc doc = null;
    private static String heading = "";

    private Check() {
    }

    /** .ci/run tells every test where the class and the document stand. */
    static void readDocument(String[] args) throws IOException {
        if (args.length < 2) {
            throw new IOException("the second argument has to be the document's path");
        }
        doc = new Doc(Path.of(args[1]));
    }

    /** Names the words of the document that the next checks are for; they have to stand in that section. */
    static void says(int section, String words) {
        heading = "\"" + words + "\" (" + section + "): ";
        checks++;
        if (!doc.says(section, words)) {
            wrong++;
            System.out.println(heading + "the document does not say so there");
        }
    }

    static void due(String what, long got, long want) {
        checks++;
        if (got != want) {
            wrong++;
            System.out.println(heading + what + " answered " + got + ", due is " + want);
        }
    }

    static void same(String what, String got, String want) {
        checks++;
        if (!got.equals(want)) {
            wrong++;
            System.out.println(heading + what + ":\n" + firstDifference(got.split("\n"), want.split("\n")));
        }
    }

    private static String firstDifference(String[] got, String[] want) {
        int at = 0;
        while (at < got.length && at < want.length && got[at].equals(want[at])) {
            at++;
        }
        return "  got " + (at < got.length ? got[at] : "less") + "\n  due " + (at < want.length ? want[at] : "less");
    }

    /** The call throws exactly this exception, and no number of the whole circle becomes another one. */
    static void refused(SavingsCircle x, String what, Class<? extends RuntimeException> due, LongSupplier call) {
        String before = numbers(x);
        thrown(what, due, x, same -> call.getAsLong());
        same(what + " must change nothing", numbers(x), before);
    }

    /**
     * The call throws exactly this exception (or none, if none is due), and leaves no trace at all:
     * afterwards the circle is like a twin that has not seen the call, also in its text, in the
     * states that undo takes back, and in its save slots.
     */
    static void leavesNoTrace(String what, Class<? extends RuntimeException> due,
            Supplier<SavingsCircle> making, ToLongFunction<SavingsCircle> call) {
        thrown(what, due, making.get(), call);
        same(what + " must leave no trace", everything(() -> called(making.get(), call)), everything(making));
    }

    private static SavingsCircle called(SavingsCircle x, ToLongFunction<SavingsCircle> call) {
        try {
            call.applyAsLong(x);
        } catch (RuntimeException e) {
            // Whether it is the right one has been seen already.
        }
        return x;
    }

    private static void thrown(String what, Class<? extends RuntimeException> due,
            SavingsCircle x, ToLongFunction<SavingsCircle> call) {
        checks++;
        Class<?> thrown = null;
        try {
            call.applyAsLong(x);
        } catch (RuntimeException e) {
            thrown = e.getClass();
        }
        if (thrown != due) {
            wrong++;
            System.out.println(heading + what + " threw " + thrown + ", due is " + due);
        }
    }

    /** The numbers of the whole circle: 9 calls. */
    static String numbers(SavingsCircle x) {
        StringBuilder s = new StringBuilder();
        for (int what = 0; what <= 8; what++) {
            s.append(x.about(what)).append(' ');
        }
        return s.toString();
    }

    /** All that can be asked of a circle: 10 calls, and 18 more for each of 8 members. */
    static String all(SavingsCircle x) {
        StringBuilder s = new StringBuilder(numbers(x));
        int n = x.about(0);
        for (int i = 0; i < n; i++) {
            s.append('|');
            for (int what = 0; what <= 10; what++) {
                s.append(x.member(i, what)).append(' ');
            }
            for (int j = 0; j < n; j++) {
                s.append(i == j ? "- " : x.owes(i, j) + " ");
            }
        }
        return s.append("text ").append(x.errorPosition()).toString();
    }

    /** All that a circle holds. An object is used for at most 512 calls, so each part is asked of a new one. */
    static String everything(Supplier<SavingsCircle> making) {
        StringBuilder s = new StringBuilder(all(making.get()));
        int remembered = countRemembered(making.get());
        for (int k = 1; k <= remembered; k++) {
            SavingsCircle x = making.get();
            s.append("\n    ").append(k).append(" times undo, then ").append(undone(x, k)).append(" left: ").append(all(x));
        }
        for (int slot = 0; slot < 2; slot++) {
            SavingsCircle x = making.get();
            s.append("\n    slot ").append(slot).append(": ").append(restored(x, slot) ? all(x) : "empty");
        }
        SavingsCircle x = making.get();
        if (x.errorPosition() == NONE) {
            x.load();
            s.append("\n    loaded: ").append(all(x));
        }
        return s.append("\n    text of ").append(x.clearText()).toString();
    }

    private static int undone(SavingsCircle x, int times) {
        int left = NONE;
        for (int k = 0; k < times; k++) {
            left = undone(x);
        }
        return left;
    }

    private static int undone(SavingsCircle x) {
        try {
            return x.undo();
        } catch (IllegalStateException e) {
            return NONE;
        }
    }

    private static boolean restored(SavingsCircle x, int slot) {
        try {
            x.restore(slot);
            return true;
        } catch (IllegalStateException e) {
            return false;
        }
    }

    /** How many states are remembered (50, if more than can be); they are used up by that. */
    static int countRemembered(SavingsCircle x) {
        int count = 0;
        while (count < 50 && undone(x) != NONE) {
            count++;
        }
        return count;
    }

    static SavingsCircle circle(String text) {
        SavingsCircle x = new SavingsCircle();
        write(x, text);
        x.load();
        return x;
    }

    /** One call more than the text has characters. */
    static void write(SavingsCircle x, String text) {
        x.clearText();
        for (int k = 0; k < text.length(); k++) {
            x.append(text.charAt(k));
        }
    }

    static void months(SavingsCircle x, int n) {
        for (int k = 0; k < n; k++) {
            x.month();
        }
    }

    static void end() {
        System.out.println(wrong == 0 ? checks + " checks, all as due" : wrong + " of " + checks + " checks are not as due");
        if (wrong != 0) {
            System.exit(1);
        }
    }
}
