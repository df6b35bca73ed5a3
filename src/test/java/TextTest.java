import java.io.IOException;

/** Promises 1 to 5: a new object, append, clearText, errorPosition, load. */
final class TextTest {
    public static void main(String[] args) throws IOException {
        Check.readDocument(args);
        newObject();
        append();
        clearText();
        errorPosition();
        load();
        loadForgets();
        Check.end();
    }

    private static void newObject() {
        SavingsCircle x = new SavingsCircle();
        int[] due = {0, 0, 0, 10, 0, 0, 0, 0, 0};
        for (int what = 0; what < due.length; what++) {
            Check.due("new: about(" + what + ")", x.about(what), due[what]);
        }
        Check.due("new: clearText", x.clearText(), 0);
        Check.due("new: errorPosition", x.errorPosition(), 0);
        Check.due("new: winner", x.winner(), Check.NONE);
        Check.due("new: pot", x.pot(), 0);
        Check.due("new: pillar", x.pillar(), Check.NONE);
        Check.refused(x, "new: undo", Check.STATE, () -> x.undo());
        Check.refused(x, "new: month", Check.STATE, () -> x.month());
        Check.refused(x, "new: load", Check.STATE, () -> x.load());
        Check.refused(x, "new: restore(0)", Check.STATE, () -> x.restore(0));
        Check.refused(x, "new: restore(1)", Check.STATE, () -> x.restore(1));
        Check.refused(x, "new: member(0, 0)", Check.NO_SUCH, () -> x.member(0, 0));
        Check.due("NONE", SavingsCircle.NONE, -99999);
    }

    private static void append() {
        Check.says(2, "Appends a character to the text buffer.");
        Check.says(2, "Returns the new length of the text.");
        SavingsCircle x = new SavingsCircle();
        Check.due("append(0)", x.append(0), 1);
        Check.due("append(255)", x.append(255), 2);
        Check.refused(x, "append(-1)", Check.ARGUMENT, () -> x.append(-1));
        Check.refused(x, "append(256)", Check.ARGUMENT, () -> x.append(256));
        Check.refused(x, "append(least)", Check.ARGUMENT, () -> x.append(Integer.MIN_VALUE));
        for (int length = 3; length <= 100; length++) {
            Check.due("append", x.append('C'), length);
        }
        Check.refused(x, "append to a full text", Check.STATE, () -> x.append('C'));
        Check.refused(x, "append(256) to a full text", Check.ARGUMENT, () -> x.append(256));
        Check.due("clearText of a full text", x.clearText(), 100);
        Check.due("append after clearText", x.append('C'), 1);
    }

    private static void clearText() {
        Check.says(3, "Empties the text buffer.");
        SavingsCircle x = new SavingsCircle();
        Check.write(x, "C10m010");
        Check.due("clearText", x.clearText(), 7);
        Check.due("clearText twice", x.clearText(), 0);
        Check.due("errorPosition of the emptied text", x.errorPosition(), 0);
        Check.write(x, "C11");
        x.load();
        x.clearText();
        Check.due("clearText keeps the circle", x.about(3), 11);
    }

    private static void errorPosition() {
        int ok = Check.NONE;
        position("", 0);
        position("c10", 0);
        position(" C10", 0);
        position("C", 1);
        position("C6", 1);
        position("C/", 1);
        position("C:", 1);
        position("C1", 2);
        position("C00", 2);
        position("C01", ok);
        position("C09", ok);
        position("C49", ok);
        position("C50", ok);
        position("C51", 2);
        position("C1x", 2);
        position("C10C", 3);
        position("C10 ", 3);
        position("C10x", 3);
        position("C10m", 4);
        position("C10m0", 5);
        position("C10m00", 6);
        position("C10m000", ok);
        position("C10m999", ok);
        position("C10m99a", 6);
        position("C10mm", 4);
        position("C10b", 3);
        position("C10b0000", 3);
        position("C10m000b", 8);
        position("C10m000b0", 9);
        position("C10m000b0999", ok);
        position("C10m000b099", 11);
        position("C10m000b1000", 8);
        position("C10m000b/000", 8);
        position("C10g01", 3);
        position("C10m000g01", 7);
        position("C10m000m000g", 12);
        position("C10m000m000g0", 13);
        position("C10m000m000g01", ok);
        position("C10m000m000g00", 13);
        position("C10m000m000g11", 13);
        position("C10m000m000g02", 13);
        position("C10m000m000g21", 12);
        position("C10m000m000g10m001g20b2001", ok);
        position("C10m000b0111m000", ok);
        String eight = "C10m000m000m000m000m000m000m000m000";
        position(eight, ok);
        position(eight + "m", 35);
        position(eight + "g77", 37);
        position(eight + "g78", 37);
        position(eight + "g76b7000", ok);
        position(eight + "g8", 36);
        String hundred = eight + "g01".repeat(20) + "b0001";
        position(hundred, ok);
        position(hundred.substring(0, 99) + "x", 99);
        position(eight + "g01".repeat(19) + "b0001m00", 97);
        position("C10m000" + "b0000".repeat(18) + "b00", 100);
        position("C10m000" + "b0000".repeat(18) + "b0", 99);
        earlierSigns();
    }

    /** What stood in the buffer before it was emptied is not read. */
    private static void earlierSigns() {
        String text = "C10m123m456g01b1789";
        for (int length = 0; length < text.length(); length++) {
            SavingsCircle x = new SavingsCircle();
            Check.write(x, text);
            Check.due("errorPosition of the whole", x.errorPosition(), Check.NONE);
            Check.write(x, text.substring(0, length));
            boolean whole = length == 3 || length == 7 || length == 11 || length == 14;
            Check.due("errorPosition of the first " + length, x.errorPosition(), whole ? Check.NONE : length);
        }
    }

    private static void position(String text, int due) {
        SavingsCircle x = new SavingsCircle();
        Check.write(x, text);
        Check.due("errorPosition of " + text, x.errorPosition(), due);
        if (due == Check.NONE) {
            x.load();
        } else {
            Check.refused(x, "load of " + text, Check.STATE, () -> x.load());
        }
        Check.due("length behind " + text, x.clearText(), text.length());
    }

    private static void load() {
        Check.says(5, "Returns the number of members.");
        SavingsCircle x = new SavingsCircle();
        Check.write(x, "C07m012m345g01b1999g10m000g02b1020g20");
        Check.due("load", x.load(), 3);
        Check.due("load keeps the text", x.errorPosition(), Check.NONE);
        Check.due("load again", x.load(), 3);
        int[] due = {3, 3, 0, 7, 0, 357, 3, 0, 357};
        for (int what = 0; what < due.length; what++) {
            Check.due("loaded: about(" + what + ")", x.about(what), due[what]);
        }
        int[][] members = {
            {12, 2, 0, 0, 0, 1, 0, 0, 0, 0, 0},
            {345, 0, 20, 0, 0, 1, 0, 0, 0, 0, 0},
            {0, 0, 0, 0, 0, 1, 0, 0, 0, 0, 0}};
        for (int i = 0; i < 3; i++) {
            for (int what = 0; what <= 10; what++) {
                Check.due("loaded: member(" + i + ", " + what + ")", x.member(i, what), members[i][what]);
            }
        }
        SavingsCircle empty = Check.circle("C33");
        Check.due("an empty circle has no members", empty.about(0), 0);
        Check.due("its contribution", empty.about(3), 33);
    }

    /** What an earlier circle left behind must not shine through a loaded one. */
    private static void loadForgets() {
        SavingsCircle x = Check.circle("C10m100m005m300g10b2015");
        x.month();
        x.stayAway(0, true);
        x.month();
        x.setGuarantor(2, 0);
        x.leave(2);
        x.save(0);
        x.save(1);
        Check.write(x, "C20m001m002m003");
        Check.due("load over an old circle", x.load(), 3);
        Check.same("nothing of the old circle is left", Check.all(x), Check.all(Check.circle("C20m001m002m003")));
        Check.refused(x, "undo after load", Check.STATE, () -> x.undo());
        Check.refused(x, "restore(0) after load", Check.STATE, () -> x.restore(0));
        Check.refused(x, "restore(1) after load", Check.STATE, () -> x.restore(1));
        x.addMember(4);
        Check.due("a member added then owes nothing", x.owes(3, 0) + x.about(7), 0);
        Check.write(x, "C9");
        x.save(1);
        Check.refused(x, "load that throws", Check.STATE, () -> x.load());
        Check.due("it keeps the save slots", x.restore(1), 0);
    }
}
