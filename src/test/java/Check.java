import java.util.function.LongSupplier;

/** What the tests share: comparing, expecting exceptions, making circles, and telling all of a state. */
final class Check {
    static final int NONE = SavingsCircle.NONE;
    static final Class<? extends RuntimeException> NO_SUCH = IndexOutOfBoundsException.class;
    static final Class<? extends RuntimeException> ARGUMENT = IllegalArgumentException.class;
    static final Class<? extends RuntimeException> STATE = IllegalStateException.class;

    private static int wrong = 0;
    private static int checks = 0;

    private Check() {
    }

    static void due(String what, long got, long want) {
        checks++;
        if (got != want) {
            wrong++;
            System.out.println(what + " answered " + got + ", due is " + want);
        }
    }

    static void same(String what, String got, String want) {
        checks++;
        if (!got.equals(want)) {
            wrong++;
            System.out.println(what + ":\n  got " + got + "\n  due " + want);
        }
    }

    /** The call throws exactly this exception, and changes nothing that can be asked. */
    static void refused(SavingsCircle x, String what, Class<? extends RuntimeException> due, LongSupplier call) {
        checks++;
        String before = all(x);
        Class<?> thrown = null;
        try {
            call.getAsLong();
        } catch (RuntimeException e) {
            thrown = e.getClass();
        }
        if (thrown != due) {
            wrong++;
            System.out.println(what + " threw " + thrown + ", due is " + due);
        }
        same(what + " must change nothing", all(x), before);
    }

    static String all(SavingsCircle x) {
        StringBuilder s = new StringBuilder();
        for (int what = 0; what <= 8; what++) {
            s.append(x.about(what)).append(' ');
        }
        int n = x.about(0);
        for (int i = 0; i < n; i++) {
            s.append('|');
            for (int what = 0; what <= 10; what++) {
                s.append(x.member(i, what)).append(' ');
            }
            for (int j = 0; j < n; j++) {
                s.append(i == j ? "- " : x.owes(i, j) + " ");
            }
        }
        return s.append("text ").append(x.errorPosition()).toString();
    }

    static SavingsCircle circle(String text) {
        SavingsCircle x = new SavingsCircle();
        write(x, text);
        x.load();
        return x;
    }

    static void write(SavingsCircle x, String text) {
        x.clearText();
        for (int k = 0; k < text.length(); k++) {
            x.append(text.charAt(k));
        }
    }

    static void end() {
        System.out.println(wrong == 0 ? checks + " checks, all as due" : wrong + " of " + checks + " checks are not as due");
        if (wrong != 0) {
            System.exit(1);
        }
    }
}
