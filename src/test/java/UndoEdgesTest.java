import java.io.IOException;
import java.util.ArrayList;
import java.util.List;
import java.util.function.Consumer;
import java.util.function.Supplier;
import java.util.function.ToLongFunction;

/** The boundary cases of "ACTIONS AND UNDO", of "EXCEPTIONS" and of promise 20, sentence by sentence. */
final class UndoEdgesTest {
    private static final int NONE = Check.NONE;

    public static void main(String[] args) throws IOException {
        Check.readDocument(args);
        state();
        eachAction();
        nothingDifferent();
        undoIsNone();
        before();
        atMost14();
        forgetting();
        notActions();
        noneRemembered();
        firstNamed();
        changesNothing();
        changesNothingInAFullCircle();
        changesNothingAtTheEnd();
        Check.end();
    }

    private static void state() {
        Check.says(0, "The methods in the section \"actions\" change the state, which consists of everything but the text and the save slots.");
        SavingsCircle x = Circles.rich();
        String before = Check.all(x);
        x.setContribution(3);
        x.clearText();
        x.append('C');
        x.save(1);
        Check.due("undo", x.undo(), 6);
        Check.same("the state", Check.all(x).replace("text 1", ""), before.replace("text " + NONE, ""));
        Check.due("undo leaves the text", x.clearText(), 1);
        Check.due("undo leaves the save slots", x.restore(1), 1);
        Check.due("contribution that was saved", x.about(3), 3);
    }

    private static void eachAction() {
        Check.says(0, "Each call of one of them that does not throw an exception is an action");
        List<Consumer<SavingsCircle>> actions = new ArrayList<>();
        actions.add(x -> x.addMember(4));
        actions.add(x -> x.setContribution(4));
        actions.add(x -> x.setGuarantor(0, 1));
        actions.add(x -> x.bid(0, 5));
        actions.add(x -> x.stayAway(0, true));
        actions.add(x -> x.give(0, 4));
        actions.add(x -> x.month());
        actions.add(x -> x.leave(2));
        actions.add(x -> x.repay(1, 0));
        for (int k = 0; k < actions.size(); k++) {
            remembered("action " + k, actions.get(k));
        }
    }

    private static void remembered(String what, Consumer<SavingsCircle> action) {
        SavingsCircle x = Circles.rich();
        String before = Check.all(x);
        int count = Check.countRemembered(Circles.rich());
        action.accept(x);
        Check.due(what + " is remembered", x.undo(), count);
        Check.same(what + " is taken back", Check.all(x), before);
        Check.same(what + " has left no trace", Check.everything(() -> takenBack(action)), Check.everything(Circles::rich));
    }

    private static SavingsCircle takenBack(Consumer<SavingsCircle> action) {
        SavingsCircle x = Circles.rich();
        action.accept(x);
        x.undo();
        return x;
    }

    private static void nothingDifferent() {
        Check.says(0, "also if nothing becomes different");
        remembered("setContribution to what it is", x -> x.setContribution(10));
        remembered("setGuarantor to what it is", x -> x.setGuarantor(0, 2));
        remembered("setGuarantor to none, without one", x -> x.setGuarantor(2, NONE));
        remembered("bid that it has", x -> x.bid(0, 4));
        remembered("stayAway that it does", x -> x.stayAway(1, true));
        remembered("stayAway that it does not", x -> x.stayAway(0, false));
        remembered("repay of nothing", x -> x.repay(0, 1));
    }

    private static void undoIsNone() {
        Check.says(0, "(undo is none)");
        SavingsCircle x = new SavingsCircle();
        x.setContribution(1);
        x.setContribution(2);
        x.setContribution(3);
        Check.due("undo", x.undo(), 2);
        Check.due("contribution", x.about(3), 2);
        Check.due("undo of what is before, not of undo", x.undo(), 1);
        Check.due("contribution", x.about(3), 1);
        Check.due("undo", x.undo(), 0);
        Check.refused(x, "undo", Check.STATE, () -> x.undo());
    }

    private static void before() {
        Check.says(0, "Before each action, the state is remembered.");
        SavingsCircle x = new SavingsCircle();
        String empty = Check.all(x);
        x.addMember(100);
        String one = Check.all(x);
        x.addMember(50);
        String two = Check.all(x);
        x.month();
        x.undo();
        Check.same("before the month", Check.all(x), two);
        x.undo();
        Check.same("before the second member", Check.all(x), one);
        x.undo();
        Check.same("before the first member", Check.all(x), empty);
        x.addMember(7);
        Check.due("a member who joins then is a new one", x.member(0, 0) + x.member(0, 10), 7);
    }

    /** For some numbers of actions: as many as are remembered can be taken back, and no more. */
    private static void atMost14() {
        Check.says(0, "At most 14 states are remembered; when one more is remembered, the oldest one is forgotten.");
        int[] numbers = {0, 1, 2, 13, 14, 15, 16, 27, 28, 29, 30, 42, 43, 50};
        for (int n : numbers) {
            SavingsCircle x = new SavingsCircle();
            x.setContribution(50);
            x.undo();
            for (int k = 1; k <= n; k++) {
                x.setContribution(k);
            }
            int left = Math.min(n, 14);
            for (int k = 1; k <= left; k++) {
                Check.due(n + " actions: undo", x.undo(), left - k);
                Check.due(n + " actions: contribution", x.about(3), n == k ? 10 : n - k);
            }
            Check.refused(x, n + " actions: one undo too many", Check.STATE, () -> x.undo());
        }
    }

    private static void forgetting() {
        Check.says(20, "Returns how many states are still remembered.");
        SavingsCircle x = new SavingsCircle();
        for (int k = 1; k <= 15; k++) {
            x.setContribution(k);
        }
        for (int k = 0; k < 5; k++) {
            x.undo();
        }
        Check.due("after 15 actions and 5 undos", x.about(3), 10);
        for (int k = 31; k <= 35; k++) {
            x.setContribution(k);
        }
        Check.due("5 actions more: undo", x.undo(), 13);
        Check.due("contribution", x.about(3), 34);
        for (int k = 0; k < 13; k++) {
            x.undo();
        }
        Check.due("the oldest that is remembered", x.about(3), 1);
        Check.refused(x, "undo of the one that was forgotten", Check.STATE, () -> x.undo());
        x.setContribution(40);
        Check.due("undo of the only one", x.undo(), 0);
        Check.due("contribution", x.about(3), 1);
    }

    private static void notActions() {
        Check.says(0, "load and restore are not actions.");
        SavingsCircle x = Circles.rich();
        x.load();
        Check.refused(x, "undo of load", Check.STATE, () -> x.undo());
        x.save(0);
        x.month();
        x.restore(0);
        Check.refused(x, "undo of restore", Check.STATE, () -> x.undo());
        x.month();
        x.save(0);
        x.save(1);
        x.append('m');
        x.errorPosition();
        x.clearText();
        Check.due("save, append and clearText are not actions either", x.undo(), 0);
        Check.due("the month", x.about(2), 0);
    }

    private static void noneRemembered() {
        Check.says(20, "Throws `IllegalStateException` if none is remembered");
        Check.leavesNoTrace("undo of a new object", Check.STATE, SavingsCircle::new, x -> x.undo());
        Check.leavesNoTrace("undo of a loaded circle", Check.STATE, () -> Check.circle("C10m001"), x -> x.undo());
        Check.leavesNoTrace("undo after all undos", Check.STATE, UndoEdgesTest::allTakenBack, x -> x.undo());
    }

    private static SavingsCircle allTakenBack() {
        SavingsCircle x = Circles.full();
        Check.due("states that are remembered", Check.countRemembered(x), 14);
        return x;
    }

    private static void firstNamed() {
        Check.says(0, "If several exceptions apply to a call, the one that its description names first is thrown.");
        Supplier<SavingsCircle> full = Circles::full;
        Check.leavesNoTrace("append(256), full", Check.ARGUMENT, full, x -> x.append(256));
        Check.leavesNoTrace("member(8, 11)", Check.NO_SUCH, full, x -> x.member(8, 11));
        Check.leavesNoTrace("owes(8, 8)", Check.NO_SUCH, full, x -> x.owes(8, 8));
        Check.leavesNoTrace("owes(-1, -1)", Check.NO_SUCH, full, x -> x.owes(-1, -1));
        Check.leavesNoTrace("addMember(1000), full", Check.ARGUMENT, full, x -> x.addMember(1000));
        Check.leavesNoTrace("setGuarantor(8, 8)", Check.NO_SUCH, full, x -> x.setGuarantor(8, 8));
        Check.leavesNoTrace("setGuarantor(NONE, NONE)", Check.NO_SUCH, full, x -> x.setGuarantor(NONE, NONE));
        Check.leavesNoTrace("bid(8, 1000)", Check.NO_SUCH, full, x -> x.bid(8, 1000));
        Check.leavesNoTrace("bid(0, 1000), taken", Check.ARGUMENT, full, x -> x.bid(0, 1000));
        Check.leavesNoTrace("bid(3, -1), left", Check.ARGUMENT, Circles::rich, x -> x.bid(3, -1));
        Check.leavesNoTrace("give(8, 0)", Check.NO_SUCH, full, x -> x.give(8, 0));
        Check.leavesNoTrace("give(8, 999)", Check.NO_SUCH, full, x -> x.give(8, 999));
        Check.leavesNoTrace("give(0, 1000)", Check.ARGUMENT, full, x -> x.give(0, 1000));
        Check.leavesNoTrace("repay(8, 8)", Check.NO_SUCH, full, x -> x.repay(8, 8));
        Check.leavesNoTrace("restore(2) of nothing", Check.NO_SUCH, SavingsCircle::new, x -> x.restore(2));
    }

    private static void changesNothing() {
        Check.says(0, "IndexOutOfBoundsException means that a member does not exist, or that a save slot is not 0 or 1.");
        Check.says(0, "IllegalArgumentException means that another argument is out of its range, or that members that have to be different are not.");
        Check.says(0, "IllegalStateException means what the method says.");
        Check.says(0, "A call that throws an exception changes nothing.");
        refusedAll(Circles::rich, 4);
        Supplier<SavingsCircle> rich = Circles::rich;
        Check.leavesNoTrace("bid(2, 1), taken", Check.STATE, rich, x -> x.bid(2, 1));
        Check.leavesNoTrace("bid(3, 1), left", Check.STATE, rich, x -> x.bid(3, 1));
        Check.leavesNoTrace("leave(3), left", Check.STATE, rich, x -> x.leave(3));
        Check.leavesNoTrace("restore(1) of nothing", Check.STATE, rich, x -> x.restore(1));
    }

    private static void changesNothingInAFullCircle() {
        Supplier<SavingsCircle> full = Circles::full;
        refusedAll(full, 8);
        Check.leavesNoTrace("append, full", Check.STATE, full, x -> x.append('C'));
        Check.leavesNoTrace("load, no circle", Check.STATE, full, x -> x.load());
        Check.leavesNoTrace("addMember(0), full", Check.STATE, full, x -> x.addMember(0));
        Check.leavesNoTrace("give(0, 1), 9000", Check.STATE, full, x -> x.give(0, 1));
        Check.leavesNoTrace("bid(0, 1), taken", Check.STATE, full, x -> x.bid(0, 1));
    }

    private static void changesNothingAtTheEnd() {
        Supplier<SavingsCircle> late = Circles::late;
        refusedAll(late, 2);
        Check.leavesNoTrace("month() in 99", Check.STATE, late, x -> x.month());
        Check.leavesNoTrace("restore(0) of nothing", Check.STATE, late, x -> x.restore(0));
        refusedAll(SavingsCircle::new, 0);
        Check.leavesNoTrace("month() with nobody", Check.STATE, SavingsCircle::new, x -> x.month());
        Check.leavesNoTrace("undo() of nothing", Check.STATE, SavingsCircle::new, x -> x.undo());
    }

    /** Calls that are refused in every circle of n members. */
    private static void refusedAll(Supplier<SavingsCircle> making, int n) {
        for (int i : new int[] {n, -1, NONE, Integer.MAX_VALUE, Integer.MIN_VALUE}) {
            noSuchMember(making, i, n);
        }
        for (int i = 0; i < n; i++) {
            int same = i;
            argument(making, "owes(i, i)", x -> x.owes(same, same));
            argument(making, "setGuarantor(i, i)", x -> x.setGuarantor(same, same));
            argument(making, "repay(i, i)", x -> x.repay(same, same));
            for (int what : new int[] {-1, 11, NONE, Integer.MAX_VALUE, Integer.MIN_VALUE}) {
                argument(making, "member(i, " + what + ")", x -> x.member(same, what));
            }
            for (int pence : new int[] {-1, 1000, NONE, Integer.MAX_VALUE, Integer.MIN_VALUE}) {
                argument(making, "bid(i, " + pence + ")", x -> x.bid(same, pence));
                argument(making, "give(i, " + pence + ")", x -> x.give(same, pence));
            }
            argument(making, "give(i, 0)", x -> x.give(same, 0));
        }
        for (int out : new int[] {-1, 1000, NONE, Integer.MAX_VALUE, Integer.MIN_VALUE}) {
            argument(making, "append(" + out + ")", x -> x.append(out));
            argument(making, "about(" + out + ")", x -> x.about(out));
            argument(making, "addMember(" + out + ")", x -> x.addMember(out));
            argument(making, "setContribution(" + out + ")", x -> x.setContribution(out));
            argument(making, "runScript(" + out + ", 0)", x -> x.runScript(out, 0));
            argument(making, "simulate(0, " + out + ")", x -> x.simulate(0, out));
            Check.leavesNoTrace("save(" + out + ")", Check.NO_SUCH, making, x -> x.save(out));
            Check.leavesNoTrace("restore(" + out + ")", Check.NO_SUCH, making, x -> x.restore(out));
        }
        justOut(making);
    }

    private static void justOut(Supplier<SavingsCircle> making) {
        argument(making, "append(256)", x -> x.append(256));
        argument(making, "about(9)", x -> x.about(9));
        argument(making, "setContribution(0)", x -> x.setContribution(0));
        argument(making, "setContribution(51)", x -> x.setContribution(51));
        argument(making, "runScript(0, 0)", x -> x.runScript(0, 0));
        argument(making, "runScript(4, 0)", x -> x.runScript(4, 0));
        argument(making, "runScript(1, -1)", x -> x.runScript(1, -1));
        argument(making, "runScript(1, 100000)", x -> x.runScript(1, 100000));
        argument(making, "simulate(0, 0)", x -> x.simulate(0, 0));
        argument(making, "simulate(0, 41)", x -> x.simulate(0, 41));
        Check.leavesNoTrace("save(2)", Check.NO_SUCH, making, x -> x.save(2));
        Check.leavesNoTrace("restore(2)", Check.NO_SUCH, making, x -> x.restore(2));
    }

    private static void argument(Supplier<SavingsCircle> making, String what, ToLongFunction<SavingsCircle> call) {
        Check.leavesNoTrace(what, Check.ARGUMENT, making, call);
    }

    private static void noSuchMember(Supplier<SavingsCircle> making, int i, int n) {
        List<ToLongFunction<SavingsCircle>> calls = new ArrayList<>();
        calls.add(x -> x.member(i, 0));
        calls.add(x -> x.owes(i, 0));
        calls.add(x -> x.owes(0, i));
        calls.add(x -> x.chain(i));
        calls.add(x -> x.rate(i));
        calls.add(x -> x.setGuarantor(i, 0));
        calls.add(x -> x.setGuarantor(i, NONE));
        calls.add(x -> x.bid(i, 1));
        calls.add(x -> x.stayAway(i, true) ? 1 : 0);
        calls.add(x -> x.give(i, 1));
        calls.add(x -> x.leave(i));
        calls.add(x -> x.repay(i, 0));
        calls.add(x -> x.repay(0, i));
        calls.add(x -> x.change(i));
        calls.add(x -> x.leastBid(i));
        calls.add(x -> x.when(i));
        calls.add(x -> x.inTheEnd(i));
        if (i != NONE || n == 0) {
            calls.add(x -> x.setGuarantor(0, i));
        }
        for (int k = 0; k < calls.size(); k++) {
            Check.leavesNoTrace("call " + k + " with the member " + i + " of " + n, Check.NO_SUCH, making, calls.get(k));
        }
    }
}
