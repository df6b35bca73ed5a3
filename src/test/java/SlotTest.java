import java.io.IOException;

/** Promises 30 and 31: save, restore. */
final class SlotTest {
    public static void main(String[] args) throws IOException {
        Check.readDocument(args);
        save();
        restore();
        Check.end();
    }

    private static void save() {
        Check.says(30, "Stores the present state in a save slot.");
        Check.says(30, "`slot`: 0 or 1");
        SavingsCircle x = Check.circle("C10m100m050");
        x.month();
        x.month();
        Check.due("save(0)", x.save(0), 2);
        x.month();
        Check.due("save(1)", x.save(1), 3);
        Check.refused(x, "save(-1)", Check.NO_SUCH, () -> x.save(-1));
        Check.refused(x, "save(2)", Check.NO_SUCH, () -> x.save(2));
        Check.due("save is not remembered", x.undo(), 2);
        Check.due("save over an earlier one", x.save(1), 2);
        Check.due("what was saved last", x.restore(1), 2);
    }

    private static void restore() {
        Check.says(31, "`slot`: 0 or 1");
        Check.says(31, "Returns the month then.");
        SavingsCircle x = Check.circle("C10m100m005m300g10b2015");
        x.month();
        String saved = Check.all(x);
        x.save(1);
        Check.refused(x, "restore(0)", Check.STATE, () -> x.restore(0));
        Check.refused(x, "restore(2)", Check.NO_SUCH, () -> x.restore(2));
        Check.refused(x, "restore(-1)", Check.NO_SUCH, () -> x.restore(-1));
        x.setGuarantor(1, 2);
        x.bid(0, 3);
        x.stayAway(1, true);
        x.give(0, 6);
        x.addMember(9);
        x.setContribution(3);
        x.month();
        x.leave(2);
        Check.due("restore(1)", x.restore(1), 1);
        Check.same("all is as it was saved", Check.all(x), saved);
        Check.refused(x, "undo after restore", Check.STATE, () -> x.undo());
        x.month();
        Check.due("a month after restore can be undone", x.undo(), 0);
        Check.same("and that is all", Check.all(x), saved);
        x.give(0, 6);
        Check.due("the save slot keeps it", x.restore(1), 1);
        Check.same("as it was saved", Check.all(x), saved);
        Check.due("restore(0) throws before it forgets", forgets(x), 1);
    }

    /** How many states are left to take back after a give, a restore that throws, and an undo of two gives. */
    private static int forgets(SavingsCircle x) {
        x.give(0, 1);
        x.give(0, 1);
        Check.refused(x, "restore(0)", Check.STATE, () -> x.restore(0));
        return x.undo();
    }
}
