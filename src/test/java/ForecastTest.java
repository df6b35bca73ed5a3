import java.io.IOException;

/** Promises 21 to 27: winner, pot, change, leastBid, pillar, when, inTheEnd. */
final class ForecastTest {
    private static final int NONE = Check.NONE;

    public static void main(String[] args) throws IOException {
        Check.readDocument(args);
        winnerAndPot();
        change();
        leastBid();
        pillar();
        when();
        inTheEnd();
        inMonth99();
        Check.end();
    }

    private static void winnerAndPot() {
        Check.says(21, "Tells who would win.");
        Check.says(22, "Tells how much would be in the pot.");
        SavingsCircle x = Check.circle("C10m100m005m300g10b2015");
        String before = Check.all(x);
        Check.due("winner", x.winner(), 2);
        Check.due("pot", x.pot(), 30);
        Check.same("they change nothing", Check.all(x), before);
        x.month();
        x.month();
        x.month();
        Check.due("winner when all have taken it", x.winner(), NONE);
        Check.due("pot all the same", x.pot(), 30);
        x.leave(0);
        Check.due("pot without one that left", x.pot(), 20);
        SavingsCircle poor = Check.circle("C10m009");
        Check.due("winner when nobody pays", poor.winner(), NONE);
        Check.due("pot then", poor.pot(), 0);
        SavingsCircle empty = Check.circle("C10");
        Check.due("winner of an empty circle", empty.winner(), NONE);
        Check.due("pot of an empty circle", empty.pot(), 0);
    }

    private static void change() {
        Check.says(23, "Tells what a month would change.");
        Check.says(23, "`i`: member");
        SavingsCircle x = Check.circle("C10m100m005m300g10b2015");
        Check.due("change(0)", x.change(0), -13);
        Check.due("change(1)", x.change(1), 7);
        Check.due("change(2)", x.change(2), 5);
        x.month();
        Check.due("change of one that is paid back", x.change(0), 0);
        Check.due("change of one that pays back", x.change(1), 10);
        Check.refused(x, "change(3)", Check.NO_SUCH, () -> x.change(3));
        Check.refused(x, "change(-1)", Check.NO_SUCH, () -> x.change(-1));
    }

    private static void leastBid() {
        Check.says(24, "Tells which bid would do.");
        Check.says(24, "`i`: member");
        SavingsCircle x = Check.circle("C10m100m100m100b1007");
        Check.due("leastBid(0), first in the row", x.leastBid(0), 7);
        Check.due("leastBid(1), no other bids", x.leastBid(1), 1);
        Check.due("leastBid(2), last in the row", x.leastBid(2), 8);
        x.bid(1, 15);
        Check.due("leastBid(0) against half of the pot", x.leastBid(0), 15);
        Check.due("leastBid(2) against half of the pot", x.leastBid(2), NONE);
        x.bid(1, 999);
        Check.due("leastBid(0) against more", x.leastBid(0), 15);
        Check.due("leastBid(2) against more", x.leastBid(2), NONE);
        x.bid(1, 14);
        Check.due("leastBid(2) against one less", x.leastBid(2), 15);
        x.bid(0, 600);
        Check.due("its own bid does not matter", x.leastBid(0), 14);
        Check.due("the bids stay", x.member(0, 2), 600);
        x.bid(0, 0);
        x.bid(2, 14);
        x.month();
        Check.due("leastBid of one that has taken it", x.leastBid(1), NONE);
        Check.due("leastBid(0) in the month 1", x.leastBid(0), 1);
        Check.due("leastBid(2) in the month 1", x.leastBid(2), 0);
        x.stayAway(2, true);
        Check.due("leastBid of one that misses", x.leastBid(2), NONE);
        Check.due("leastBid of the only one", x.leastBid(0), 0);
        x.leave(0);
        Check.due("leastBid of one that left", x.leastBid(0), NONE);
        Check.refused(x, "leastBid(3)", Check.NO_SUCH, () -> x.leastBid(3));
        Check.refused(x, "leastBid(-1)", Check.NO_SUCH, () -> x.leastBid(-1));
        SavingsCircle left = Check.circle("C10m100m100b0020");
        left.bid(0, 20);
        left.leave(0);
        Check.due("the bid of one that left does not count", left.leastBid(1), 0);
        SavingsCircle one = Check.circle("C01m100");
        Check.due("leastBid with a pot of 1", one.leastBid(0), 0);
    }

    private static void pillar() {
        Check.says(25, "Finds the member whom all others need most.");
        SavingsCircle x = Check.circle("C10m100m100m005m020g21");
        Check.due("pillar, who pays for another", x.pillar(), 1);
        x.setGuarantor(2, 3);
        Check.due("pillar, another guarantor", x.pillar(), 3);
        x.setGuarantor(2, NONE);
        Check.due("pillar, the lowest of equal ones", x.pillar(), 0);
        x.setGuarantor(0, 1);
        Check.due("pillar, who would be paid for is not", x.pillar(), 1);
        x.stayAway(0, true);
        x.stayAway(1, true);
        Check.due("pillar, who stays away already is not", x.pillar(), 3);
        x.leave(3);
        x.leave(0);
        Check.due("pillar of those in the circle", x.pillar(), 1);
        Check.due("its mark stays as it is", x.member(2, 3), 0);
        x.leave(1);
        x.leave(2);
        Check.due("pillar of nobody", x.pillar(), NONE);
    }

    private static void when() {
        Check.says(26, "Tells when a member would take the pot.");
        Check.says(26, "`i`: member");
        SavingsCircle x = Check.circle("C10m100m005m300g10b2015");
        Check.due("when(2)", x.when(2), 0);
        Check.due("when(1)", x.when(1), 1);
        Check.due("when(0)", x.when(0), 2);
        x.month();
        Check.due("when of one that has taken it", x.when(2), NONE);
        Check.due("when tells the month, not the number of months", x.when(1), 1);
        x.leave(1);
        Check.due("when of one that left", x.when(1), NONE);
        Check.refused(x, "when(3)", Check.NO_SUCH, () -> x.when(3));
        Check.refused(x, "when(-1)", Check.NO_SUCH, () -> x.when(-1));
        SavingsCircle marked = Check.circle("C10m100m100b0009");
        marked.stayAway(0, true);
        Check.due("a mark holds for the first month", marked.when(0), 1);
        Check.due("when of the other", marked.when(1), 0);
        SavingsCircle poor = Check.circle("C10m100m009");
        Check.due("when of one that never can pay", poor.when(1), NONE);
    }

    private static void inTheEnd() {
        Check.says(27, "Tells how it ends.");
        Check.says(27, "`i`: member");
        SavingsCircle x = Check.circle("C10m100m005m300g10b2015");
        Check.due("inTheEnd(0)", x.inTheEnd(0), 107);
        Check.due("inTheEnd(1)", x.inTheEnd(1), 12);
        Check.due("inTheEnd(2)", x.inTheEnd(2), 285);
        x.month();
        x.month();
        x.month();
        Check.due("now, if all have taken it", x.inTheEnd(0), 107);
        Check.refused(x, "inTheEnd(3)", Check.NO_SUCH, () -> x.inTheEnd(3));
        Check.refused(x, "inTheEnd(-1)", Check.NO_SUCH, () -> x.inTheEnd(-1));
        SavingsCircle endless = Check.circle("C10m500m009");
        Check.due("20 months, the first of them its own", endless.inTheEnd(0), 500 - 20 * 10 + 10);
        SavingsCircle gone = Check.circle("C10m500m100");
        gone.leave(0);
        Check.due("inTheEnd of one that left", gone.inTheEnd(0), 500);
        gone.leave(1);
        Check.due("now, if nobody is in the circle", gone.inTheEnd(1), 100);
    }

    private static void inMonth99() {
        SavingsCircle x = Check.circle("C01m400m000");
        for (int k = 0; k < 94; k++) {
            x.month();
        }
        Check.due("inTheEnd when month() cannot any more", x.inTheEnd(0), 400 - 99 + 1);
        x.give(1, 1);
        for (int k = 0; k < 5; k++) {
            x.stayAway(1, true);
            x.month();
        }
        Check.due("the month", x.about(2), 99);
        Check.due("winner in 99", x.winner(), 1);
        Check.due("pot in 99", x.pot(), 2);
        Check.due("change in 99", x.change(1), 1);
        Check.due("leastBid in 99", x.leastBid(1), 0);
        x.setGuarantor(1, 0);
        Check.due("pillar in 99", x.pillar(), 0);
        Check.due("when in 99", x.when(1), NONE);
        Check.due("inTheEnd in 99", x.inTheEnd(0), 400 - 99 + 1);
        x.undo();
        x.undo();
        Check.due("when, in the month 98", x.when(1), NONE);
        x.stayAway(1, false);
        Check.due("when, just possible", x.when(1), 98);
    }
}
