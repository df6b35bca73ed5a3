import java.io.IOException;
import java.util.Random;
import java.util.regex.Matcher;
import java.util.regex.Pattern;

/** The boundary cases of "TEXT" and of promises 1 to 5, sentence by sentence. */
final class TextEdgesTest {
    private static final int NONE = Check.NONE;
    private static final String DIGITS = "0123456789";
    private static final String TWO = "C10m001m002";
    private static final String EIGHT = "C10" + "m003".repeat(8);
    private static final String FULL = EIGHT + "g01".repeat(20) + "b7001";

    public static void main(String[] args) throws IOException {
        Check.readDocument(args);
        newObject();
        atMost100();
        contributions();
        anyOrder();
        atMostEight();
        guarantors();
        bids();
        noBlanks();
        firstNotAllowed();
        allowedSigns();
        endsTooSoon();
        secondReader();
        appended();
        cleared();
        checked();
        loaded();
        notLoaded();
        Check.end();
    }

    private static int position(String text) {
        SavingsCircle x = new SavingsCircle();
        Check.write(x, text);
        return x.errorPosition();
    }

    private static void is(String text, int due) {
        Check.due("errorPosition of " + text, position(text), due);
    }

    private static void newObject() {
        Check.says(1, "Creates a circle without members.");
        SavingsCircle x = new SavingsCircle();
        for (int what = 0; what <= 8; what++) {
            Check.due("about(" + what + ")", x.about(what), what == 3 ? 10 : 0);
        }
        Check.refused(x, "member(0, 0)", Check.NO_SUCH, () -> x.member(0, 0));
        Check.refused(x, "owes(0, 1)", Check.NO_SUCH, () -> x.owes(0, 1));
        Check.refused(x, "chain(0)", Check.NO_SUCH, () -> x.chain(0));
        Check.refused(x, "rate(0)", Check.NO_SUCH, () -> x.rate(0));
        Check.due("nothing is remembered, saved or written", Check.everything(SavingsCircle::new)
            .equals("0 0 0 10 0 0 0 0 0 text 0\n    slot 0: empty\n    slot 1: empty\n    text of 0") ? 1 : 0, 1);
    }

    private static void atMost100() {
        Check.says(0, "The object has a text buffer of at most 100 characters.");
        SavingsCircle x = new SavingsCircle();
        for (int length = 1; length <= 100; length++) {
            Check.due("append", x.append(FULL.charAt(length - 1)), length);
        }
        Check.due("a circle of 100 characters", x.errorPosition(), NONE);
        Check.refused(x, "the 101st character", Check.STATE, () -> x.append('m'));
        Check.due("load of 100 characters", x.load(), 8);
        Check.due("the last bid of it", x.member(7, 2), 1);
        Check.due("length", x.clearText(), 100);
        Check.due("append then", x.append('C'), 1);
    }

    private static void contributions() {
        Check.says(0, "A circle is the letter C, two digits from 01 to 50 for the contribution");
        for (int c = 0; c <= 99; c++) {
            String text = "C" + c / 10 + c % 10;
            if (c >= 1 && c <= 50) {
                is(text, NONE);
                Check.due("contribution of " + text, Check.circle(text).about(3), c);
            } else {
                is(text, c > 59 ? 1 : 2);
            }
        }
        is("C001", 2);
        is("C100", 3);
    }

    private static void anyOrder() {
        Check.says(0, "and then any number of parts, in any order");
        is("C10", NONE);
        is("C10m000b0001m000g10b1002g01m000g20b0003", NONE);
        is(TWO + "b0005b0006g01g01b1001g10", NONE);
        SavingsCircle x = Check.circle("C10m010b0001m020g10b1002g01m030g20b0003");
        Check.due("bids", x.member(0, 2) + 10 * x.member(1, 2) + 100 * x.member(2, 2), 23);
        Check.due("guarantors", x.member(0, 1) + 10 * x.member(1, 1) + 100 * x.member(2, 1), 1);
        Check.due("purses", x.member(0, 0) + x.member(1, 0) + x.member(2, 0), 60);
    }

    private static void atMostEight() {
        Check.says(0, "the letter m and three digits for the purse of a member (at most 8 of these)");
        is("C10" + "m003".repeat(7) + "m999", NONE);
        is(EIGHT + "m", EIGHT.length());
        is(EIGHT + "m003", EIGHT.length());
        is(EIGHT + "b0001m003", EIGHT.length() + 5);
        SavingsCircle x = Check.circle("C10m000m999");
        Check.due("the smallest purse", x.member(0, 0), 0);
        Check.due("the greatest purse", x.member(1, 0), 999);
        Check.due("members of eight", Check.circle(EIGHT).about(0), 8);
    }

    private static void guarantors() {
        Check.says(0, "the letter g, a digit for a member and one for its guarantor (another one; both told ahead; a later one replaces an earlier one)");
        is(TWO + "g01", NONE);
        is(TWO + "g10", NONE);
        is(TWO + "g00", TWO.length() + 2);
        is(TWO + "g11", TWO.length() + 2);
        is(TWO + "g02", TWO.length() + 2);
        is(TWO + "g20", TWO.length() + 1);
        is(TWO + "g02m003", TWO.length() + 2);
        is(TWO + "m003g02", NONE);
        is(EIGHT + "g70", NONE);
        is(EIGHT + "g07", NONE);
        is(EIGHT + "g80", EIGHT.length() + 1);
        is(EIGHT + "g08", EIGHT.length() + 2);
        SavingsCircle x = Check.circle(TWO + "m003g01g12g02");
        Check.due("the later guarantor", x.member(0, 1), 2);
        Check.due("that of another member stays", x.member(1, 1), 2);
        Check.due("no guarantor", x.member(2, 1), NONE);
    }

    private static void bids() {
        Check.says(0, "the letter b, a digit for a member told ahead and three for its bid (a later one replaces an earlier one)");
        is(TWO + "b0000", NONE);
        is(TWO + "b1999", NONE);
        is(TWO + "b2000", TWO.length() + 1);
        is(TWO + "b2000m003", TWO.length() + 1);
        is(EIGHT + "b7999", NONE);
        is(EIGHT + "b8000", EIGHT.length() + 1);
        SavingsCircle x = Check.circle(TWO + "b0999b1005b0007b1000");
        Check.due("the later bid", x.member(0, 2), 7);
        Check.due("a later bid of 0", x.member(1, 2), 0);
    }

    private static void noBlanks() {
        Check.says(0, "There are no blanks.");
        String text = TWO + "g01b0001";
        for (int at = 0; at <= text.length(); at++) {
            is(text.substring(0, at) + " " + text.substring(at), at);
        }
        is("\nC10", 0);
        is("C10\n", 3);
        is("C10\0", 3);
    }

    private static void firstNotAllowed() {
        Check.says(0, "The text is read from left to right.");
        Check.says(0, "The error position is the index of the first character that these rules do not allow at its place");
        is("x", 0);
        is("xyz", 0);
        is("C10xm000y", 3);
        is("C10m000C10m000", 7);
        is(FULL.substring(0, 99) + "x", 99);
        is("x".repeat(100), 0);
    }

    /** Behind each of these beginnings, of all 256 characters just these are allowed. */
    private static void allowedSigns() {
        Check.says(0, "(a g is not allowed before two members are told, a b not before one; a digit is not allowed if no number that is allowed begins with it and those before it)");
        allows("", "C");
        allows("C", "012345");
        allows("C0", "123456789");
        for (int tens = 1; tens <= 4; tens++) {
            allows("C" + tens, DIGITS);
        }
        allows("C5", "0");
        allows("C50", "m");
        allows("C10m", DIGITS);
        allows("C10m0", DIGITS);
        allows("C10m99", DIGITS);
        allows("C10m999", "mb");
        allows("C10m999b", "0");
        allows("C10m999b0", DIGITS);
        allows("C10m999b09", DIGITS);
        allows("C10m999b099", DIGITS);
        allows("C10m999b0999", "mb");
        allows(TWO, "mgb");
        allows(TWO + "g", "01");
        allows(TWO + "g0", "1");
        allows(TWO + "g1", "0");
        allows(TWO + "g01", "mgb");
        allows(TWO + "b", "01");
        allows(TWO + "m000g1", "02");
        allows("C10" + "m000".repeat(7), "mgb");
        allows(EIGHT, "gb");
        allows(EIGHT + "g", "01234567");
        allows(EIGHT + "g7", "0123456");
        allows(EIGHT + "g0", "1234567");
        allows(EIGHT + "b", "01234567");
    }

    private static void allows(String text, String signs) {
        for (int c = 0; c <= 255; c++) {
            SavingsCircle x = new SavingsCircle();
            Check.write(x, text);
            x.append(c);
            int error = x.errorPosition();
            boolean allowed = error == NONE || error == text.length() + 1;
            Check.due("'" + text + "' and character " + c, allowed ? 1 : 0, signs.indexOf(c) >= 0 ? 1 : 0);
            if (!allowed) {
                Check.due("its place", error, text.length());
            }
        }
    }

    private static void endsTooSoon() {
        Check.says(0, "if the text ends too soon, it is the length of the text.");
        String text = "C10m123m456g01b1789";
        for (int length = 0; length <= text.length(); length++) {
            boolean whole = length == 3 || length == 7 || length == 11 || length == 14 || length == 19;
            is(text.substring(0, length), whole ? NONE : length);
        }
        is(FULL, NONE);
        is("C10m000" + "b0000".repeat(18) + "b00", 100);
    }

    /** Random texts against a reader of another kind; the circles among them are loaded and compared. */
    private static void secondReader() {
        Check.says(4, "Returns the error position of the text; NONE if it is a circle.");
        int circles = 0;
        for (int seed = 0; seed < 20000; seed++) {
            Random random = new Random(seed);
            String text = randomText(random);
            for (int k = random.nextInt(3); k > 0; k--) {
                text = spoiled(text, random);
            }
            text = text.substring(0, Math.min(100, text.length()));
            is(text, errorOf(text));
            if (errorOf(text) == NONE) {
                circles++;
                loadedFrom(text);
            }
        }
        Check.due("enough of them are circles", circles > 4000 ? 1 : 0, 1);
    }

    private static String randomText(Random random) {
        StringBuilder s = new StringBuilder(String.format("C%02d", 1 + random.nextInt(50)));
        int told = 0;
        for (int parts = random.nextInt(30); parts > 0; parts--) {
            int kind = random.nextInt(told < 2 ? 1 : 4);
            if (kind == 0 && told < 8) {
                s.append(String.format("m%03d", random.nextInt(1000)));
                told++;
            } else if (kind == 1) {
                int member = random.nextInt(told);
                s.append('g').append(member).append((member + 1 + random.nextInt(told - 1)) % told);
            } else if (told > 0) {
                s.append(String.format("b%d%03d", random.nextInt(told), random.nextInt(1000)));
            }
        }
        return s.toString();
    }

    private static String spoiled(String text, Random random) {
        int at = random.nextInt(text.length() + 1);
        String sign = "" + "Cmgb0123456789 x".charAt(random.nextInt(16));
        String tail = text.substring(Math.min(text.length(), at + random.nextInt(2)));
        return text.substring(0, at) + (random.nextInt(3) == 0 ? "" : sign) + tail;
    }

    private static final Pattern CIRCLE = Pattern.compile("C(0[1-9]|[1-4][0-9]|50)(m[0-9]{3}|g[0-9]{2}|b[0-9]{4})*");

    private static int errorOf(String text) {
        for (int length = 1; length <= text.length(); length++) {
            if (!canGoOn(text.substring(0, length))) {
                return length - 1;
            }
        }
        return CIRCLE.matcher(text).matches() ? NONE : text.length();
    }

    /** Whether this is the beginning of a circle: by its form, and by who is told ahead. */
    private static boolean canGoOn(String text) {
        Matcher form = CIRCLE.matcher(text);
        if (!form.matches() && !form.hitEnd()) {
            return false;
        }
        int told = 0;
        for (int k = 0; k < text.length(); k++) {
            char kind = text.charAt(k);
            String rest = text.substring(k + 1);
            told += kind == 'm' ? 1 : 0;
            boolean first = rest.isEmpty() || rest.charAt(0) - '0' < told;
            boolean second = rest.length() < 2 || rest.charAt(1) - '0' < told && rest.charAt(1) != rest.charAt(0);
            if (told > 8 || kind == 'b' && (told < 1 || !first) || kind == 'g' && (told < 2 || !first || !second)) {
                return false;
            }
        }
        return true;
    }

    private static void loadedFrom(String text) {
        SavingsCircle x = new SavingsCircle();
        Check.write(x, text);
        int[][] members = new int[8][3];
        int told = 0;
        Matcher part = Pattern.compile("m([0-9]{3})|g([0-9])([0-9])|b([0-9])([0-9]{3})").matcher(text);
        while (part.find()) {
            if (part.group(1) != null) {
                members[told][0] = Integer.parseInt(part.group(1));
                members[told][1] = NONE;
                told++;
            } else if (part.group(2) != null) {
                members[Integer.parseInt(part.group(2))][1] = Integer.parseInt(part.group(3));
            } else {
                members[Integer.parseInt(part.group(4))][2] = Integer.parseInt(part.group(5));
            }
        }
        Check.due("load of " + text, x.load(), told);
        Check.due("contribution of " + text, x.about(3), Integer.parseInt(text.substring(1, 3)));
        int given = 0;
        for (int i = 0; i < told; i++) {
            given += members[i][0];
            for (int what = 0; what <= 10; what++) {
                int due = what < 3 ? members[i][what] : what == 5 ? 1 : 0;
                Check.due("member(" + i + ", " + what + ") of " + text, x.member(i, what), due);
            }
        }
        Check.due("given by " + text, x.about(8), given);
    }

    private static void appended() {
        Check.says(2, "`c`: character code, 0 to 255");
        Check.says(2, "Throws `IllegalArgumentException` if c is out of range");
        SavingsCircle x = new SavingsCircle();
        Check.due("append(0)", x.append(0), 1);
        Check.due("append(255)", x.append(255), 2);
        int[] out = {-1, 256, NONE, Integer.MIN_VALUE, Integer.MAX_VALUE, 65536 + 'C'};
        for (int c : out) {
            Check.leavesNoTrace("append(" + c + ")", Check.ARGUMENT, TextEdgesTest::written, y -> y.append(c));
            Check.leavesNoTrace("append(" + c + ") to a full text", Check.ARGUMENT, TextEdgesTest::full, y -> y.append(c));
        }
        Check.says(2, "Throws `IllegalStateException` if the text already has 100 characters");
        Check.leavesNoTrace("append to a full text", Check.STATE, TextEdgesTest::full, y -> y.append('b'));
        SavingsCircle y = new SavingsCircle();
        Check.write(y, FULL.substring(0, 99));
        Check.due("the 100th character", y.append('1'), 100);
        Check.refused(y, "the 101st", Check.STATE, () -> y.append('1'));
    }

    private static SavingsCircle written() {
        SavingsCircle x = Check.circle(TWO + "g01");
        x.bid(0, 3);
        x.save(1);
        x.month();
        return x;
    }

    private static SavingsCircle full() {
        SavingsCircle x = written();
        Check.write(x, FULL);
        return x;
    }

    private static void cleared() {
        Check.says(3, "Returns the previous length of the text.");
        SavingsCircle x = written();
        String before = Check.all(x).replace("text " + NONE, "");
        Check.due("clearText", x.clearText(), TWO.length() + 3);
        Check.due("clearText of an empty text", x.clearText(), 0);
        Check.due("the empty text", x.errorPosition(), 0);
        Check.same("the circle stays", Check.all(x).replace("text 0", ""), before);
        Check.due("clearText is not an action", x.undo(), 1);
        Check.due("the save slot stays", x.restore(1), 0);
        Check.due("clearText of a full text", full().clearText(), 100);
        Check.due("clearText of a new object", new SavingsCircle().clearText(), 0);
    }

    private static void checked() {
        Check.says(4, "Checks the text.");
        Check.leavesNoTrace("errorPosition of a circle", Check.NOTHING, TextEdgesTest::full, x -> x.errorPosition());
        Check.leavesNoTrace("errorPosition of another text", Check.NOTHING, TextEdgesTest::wrong, x -> x.errorPosition());
    }

    private static SavingsCircle wrong() {
        SavingsCircle x = written();
        x.append('m');
        return x;
    }

    private static void loaded() {
        Check.says(5, "Replaces everything by the circle of the text, in the month 0. Forgets all remembered states and empties both save slots. Keeps the text.");
        Check.due("load", loadedOver("C20m001m002m003b1004").about(0), 3);
        Check.same("everything", Check.everything(() -> loadedOver("C20m001m002m003b1004")),
            Check.everything(() -> Check.circle("C20m001m002m003b1004")));
        SavingsCircle y = Check.circle("C10m100m100g01");
        y.month();
        y.save(0);
        y.save(1);
        Check.write(y, "C20");
        Check.due("load of nobody", y.load(), 0);
        Check.due("month", y.about(2), 0);
        Check.due("winner, none of those before", y.winner(), NONE);
        Check.due("pot", y.pot(), 0);
        Check.due("pillar", y.pillar(), NONE);
        Check.due("simulate", y.simulate(3, 2), 0);
        Check.refused(y, "month() with nobody", Check.STATE, () -> y.month());
        Check.refused(y, "member 0, which was before", Check.NO_SUCH, () -> y.when(0));
        Check.refused(y, "undo", Check.STATE, () -> y.undo());
        Check.refused(y, "restore(0)", Check.STATE, () -> y.restore(0));
        Check.refused(y, "restore(1)", Check.STATE, () -> y.restore(1));
        Check.due("load again", y.load(), 0);
        Check.due("the text stays", y.clearText(), 3);
    }

    private static SavingsCircle loadedOver(String text) {
        SavingsCircle x = written();
        x.save(0);
        x.setContribution(50);
        x.addMember(9);
        x.leave(1);
        Check.write(x, text);
        Check.due("load", x.load(), x.about(0));
        return x;
    }

    private static void notLoaded() {
        Check.says(5, "Throws `IllegalStateException` if the text is not a circle");
        Check.leavesNoTrace("load of a text that ends too soon", Check.STATE, TextEdgesTest::wrong, x -> x.load());
        Check.leavesNoTrace("load of a new object", Check.STATE, SavingsCircle::new, x -> x.load());
        String[] texts = {"", "C", "C5", "C51", "C00", TWO + "g00", TWO + "b2000", EIGHT + "m003", FULL.substring(0, 99), TWO + " "};
        for (String text : texts) {
            Check.leavesNoTrace("load of " + text, Check.STATE, () -> over(text), x -> x.load());
        }
    }

    private static SavingsCircle over(String text) {
        SavingsCircle x = written();
        Check.write(x, text);
        return x;
    }
}
