import java.io.IOException;

/** Promises 11 to 20: addMember, setContribution, setGuarantor, bid, stayAway, give, month, leave, repay, undo. */
final class ActionsTest {
    private static final int NONE = Check.NONE;

    public static void main(String[] args) throws IOException {
        Check.readDocument(args);
        addMember();
        setContribution();
        setGuarantor();
        bid();
        stayAway();
        give();
        monthPays();
        monthChooses();
        monthShares();
        monthEnds();
        leave();
        repay();
        undo();
        undoOfEach();
        Check.end();
    }

    private static void addMember() {
        Check.says(11, "Returns its number.");
        SavingsCircle x = new SavingsCircle();
        Check.refused(x, "addMember(-1)", Check.ARGUMENT, () -> x.addMember(-1));
        Check.refused(x, "addMember(1000)", Check.ARGUMENT, () -> x.addMember(1000));
        Check.due("addMember(0)", x.addMember(0), 0);
        for (int i = 1; i < 8; i++) {
            Check.due("addMember(999)", x.addMember(999), i);
        }
        Check.due("purse of the first", x.member(0, 0), 0);
        Check.due("purse of the last", x.member(7, 0), 999);
        Check.due("guarantor of the last", x.member(7, 1), NONE);
        Check.due("the last is in the circle", x.member(7, 5), 1);
        Check.refused(x, "a ninth member", Check.STATE, () -> x.addMember(0));
        Check.refused(x, "a ninth member with 1000", Check.ARGUMENT, () -> x.addMember(1000));
        SavingsCircle full = new SavingsCircle();
        full.addMember(999);
        for (int k = 0; k < 8; k++) {
            full.give(0, 999);
        }
        Check.due("a first purse is not refused for what was given", full.addMember(999), 1);
        Check.due("given then", full.about(8), 9990);
    }

    private static void setContribution() {
        Check.says(12, "Changes the contribution.");
        Check.says(12, "Returns the previous one.");
        SavingsCircle x = new SavingsCircle();
        Check.due("setContribution(1)", x.setContribution(1), 10);
        Check.due("setContribution(50)", x.setContribution(50), 1);
        Check.due("setContribution(50) again", x.setContribution(50), 50);
        Check.due("contribution", x.about(3), 50);
        Check.refused(x, "setContribution(0)", Check.ARGUMENT, () -> x.setContribution(0));
        Check.refused(x, "setContribution(51)", Check.ARGUMENT, () -> x.setContribution(51));
        Check.due("undo of the third", x.undo(), 2);
    }

    private static void setGuarantor() {
        Check.says(13, "Changes the guarantor of a member.");
        Check.says(13, "`i`: member");
        SavingsCircle x = Check.circle("C10m010m020m030");
        Check.due("setGuarantor(0, 2)", x.setGuarantor(0, 2), NONE);
        Check.due("setGuarantor(0, 1)", x.setGuarantor(0, 1), 2);
        Check.due("setGuarantor(1, 0)", x.setGuarantor(1, 0), NONE);
        Check.due("its guarantor", x.member(0, 1), 1);
        Check.due("setGuarantor(0, NONE)", x.setGuarantor(0, NONE), 1);
        Check.due("setGuarantor(0, NONE) again", x.setGuarantor(0, NONE), NONE);
        Check.refused(x, "setGuarantor(3, 0)", Check.NO_SUCH, () -> x.setGuarantor(3, 0));
        Check.refused(x, "setGuarantor(3, NONE)", Check.NO_SUCH, () -> x.setGuarantor(3, NONE));
        Check.refused(x, "setGuarantor(NONE, NONE)", Check.NO_SUCH, () -> x.setGuarantor(NONE, NONE));
        Check.refused(x, "setGuarantor(0, 3)", Check.NO_SUCH, () -> x.setGuarantor(0, 3));
        Check.refused(x, "setGuarantor(0, -1)", Check.NO_SUCH, () -> x.setGuarantor(0, -1));
        Check.refused(x, "setGuarantor(5, 5)", Check.NO_SUCH, () -> x.setGuarantor(5, 5));
        Check.refused(x, "setGuarantor(2, 2)", Check.ARGUMENT, () -> x.setGuarantor(2, 2));
    }

    private static void bid() {
        Check.says(14, "Changes a bid.");
        Check.says(14, "`i`: member");
        Check.says(14, "Returns the previous bid.");
        SavingsCircle x = Check.circle("C10m010m020b0007");
        Check.due("bid(0, 999)", x.bid(0, 999), 7);
        Check.due("bid(0, 0)", x.bid(0, 0), 999);
        Check.due("bid(1, 3)", x.bid(1, 3), 0);
        Check.due("the bid", x.member(1, 2), 3);
        Check.refused(x, "bid(2, 1)", Check.NO_SUCH, () -> x.bid(2, 1));
        Check.refused(x, "bid(-1, 1000)", Check.NO_SUCH, () -> x.bid(-1, 1000));
        Check.refused(x, "bid(0, -1)", Check.ARGUMENT, () -> x.bid(0, -1));
        Check.refused(x, "bid(0, 1000)", Check.ARGUMENT, () -> x.bid(0, 1000));
        x.month();
        Check.refused(x, "bid of one that has taken the pot", Check.STATE, () -> x.bid(1, 5));
        Check.refused(x, "bid(1, 1000) of it", Check.ARGUMENT, () -> x.bid(1, 1000));
        x.bid(0, 4);
        x.leave(0);
        Check.refused(x, "bid of one that left", Check.STATE, () -> x.bid(0, 5));
        Check.due("the bid of one that left stays", x.member(0, 2), 4);
        x.month();
        Check.due("until the month goes by", x.member(0, 2), 0);
    }

    private static void stayAway() {
        Check.says(15, "Changes whether a member stays away this month.");
        Check.says(15, "`i`: member");
        Check.says(15, "`is`: whether it does then");
        SavingsCircle x = Check.circle("C10m010m020");
        Check.due("stayAway(1, true)", x.stayAway(1, true) ? 1 : 0, 0);
        Check.due("stayAway(1, true) again", x.stayAway(1, true) ? 1 : 0, 1);
        Check.due("its mark", x.member(1, 3), 1);
        Check.due("the mark of the other", x.member(0, 3), 0);
        Check.due("stayAway(1, false)", x.stayAway(1, false) ? 1 : 0, 1);
        Check.due("stayAway(1, false) again", x.stayAway(1, false) ? 1 : 0, 0);
        Check.refused(x, "stayAway(2, true)", Check.NO_SUCH, () -> x.stayAway(2, true) ? 1 : 0);
        Check.refused(x, "stayAway(-1, false)", Check.NO_SUCH, () -> x.stayAway(-1, false) ? 1 : 0);
        x.leave(0);
        Check.due("stayAway of one that left", x.stayAway(0, true) ? 1 : 0, 0);
        Check.due("its mark then", x.member(0, 3), 1);
        x.month();
        Check.due("its mark after the month", x.member(0, 3), 0);
    }

    private static void give() {
        Check.says(16, "Gives pence to a member.");
        Check.says(16, "`i`: member");
        Check.says(16, "Returns its purse then.");
        SavingsCircle x = Check.circle("C10m010m000");
        Check.due("give(0, 1)", x.give(0, 1), 11);
        Check.due("give(1, 999)", x.give(1, 999), 999);
        Check.due("given so far", x.about(8), 1010);
        Check.refused(x, "give(2, 5)", Check.NO_SUCH, () -> x.give(2, 5));
        Check.refused(x, "give(2, 0)", Check.NO_SUCH, () -> x.give(2, 0));
        Check.refused(x, "give(0, 0)", Check.ARGUMENT, () -> x.give(0, 0));
        Check.refused(x, "give(0, -1)", Check.ARGUMENT, () -> x.give(0, -1));
        Check.refused(x, "give(0, 1000)", Check.ARGUMENT, () -> x.give(0, 1000));
        x.leave(1);
        for (int k = 1; k <= 7; k++) {
            Check.due("give to one that left", x.give(1, 999), 999 + 999 * k);
        }
        Check.refused(x, "give(0, 998) of 997 that are left", Check.STATE, () -> x.give(0, 998));
        Check.refused(x, "give(0, 1000) then", Check.ARGUMENT, () -> x.give(0, 1000));
        Check.due("give(0, 997)", x.give(0, 997), 1008);
        Check.due("given in all", x.about(8), 9000);
        Check.refused(x, "give(0, 1) beyond 9000", Check.STATE, () -> x.give(0, 1));
    }

    private static void purses(String when, SavingsCircle x, int box, int... due) {
        for (int i = 0; i < due.length; i++) {
            Check.due(when + ": purse of " + i, x.member(i, 0), due[i]);
        }
        Check.due(when + ": box", x.about(4), box);
    }

    /** Parts 1 and 2. */
    private static void monthPays() {
        Check.says(17, "Lets a month go by.");
        Check.says(0, "A month goes by like this:");
        Check.says(0, "For each member in the circle who has not paid, ascending:");
        SavingsCircle exact = Check.circle("C10m010m009");
        exact.month();
        purses("just the contribution, and one less", exact, 0, 10, 9);
        Check.due("who has less misses", exact.member(1, 10), 1);
        Check.due("who has it does not", exact.member(0, 10), 0);

        SavingsCircle twice = Check.circle("C10m020m000m000g10g20");
        Check.due("a guarantor pays once more", twice.month(), 0);
        purses("only once, for the lower one", twice, 0, 20, 0, 0);
        Check.due("owes(1, 0)", twice.owes(1, 0), 10);
        Check.due("owes(2, 0)", twice.owes(2, 0), 0);
        Check.due("paid for others", twice.member(0, 7), 10);
        Check.due("paid for itself", twice.member(0, 6), 10);
        Check.due("paid by the one that was paid for", twice.member(1, 6), 0);
        Check.due("it did not miss", twice.member(1, 10), 0);
        Check.due("the other one missed", twice.member(2, 10), 1);

        SavingsCircle away = Check.circle("C10m100m100g10");
        away.stayAway(1, true);
        Check.due("one that stays away is paid for", away.pot(), 20);
        away.stayAway(0, true);
        Check.due("not by one that stays away itself", away.pot(), 0);
        away.stayAway(1, false);
        Check.due("who pays itself needs no guarantor", away.pot(), 10);

        SavingsCircle chain = Check.circle("C10m000m005m100g01g12");
        chain.bid(2, 1);
        chain.month();
        Check.due("a guarantor that was paid for itself does not pay", chain.member(0, 10), 1);
        Check.due("owes(1, 2)", chain.owes(1, 2), 10);

        SavingsCircle left = Check.circle("C10m000m100g01");
        left.leave(1);
        left.month();
        Check.due("a guarantor that left does not pay", left.member(0, 10), 1);
        Check.due("nor does it pay for itself", left.member(1, 6), 0);
        Check.due("nor miss", left.member(1, 10), 0);

        SavingsCircle before = Check.circle("C10m020m000m005g02g10");
        before.setGuarantor(0, 1);
        before.stayAway(0, true);
        before.month();
        Check.due("a guarantor that does not pay in part 1", before.member(1, 10), 1);
    }

    /** Part 3. */
    private static void monthChooses() {
        SavingsCircle ties = Check.circle("C10m999m999m999");
        for (int k = 0; k < 3; k++) {
            Check.due("of equal bids the member of the month", ties.month(), k);
        }
        Check.due("when all have taken it", ties.month(), NONE);
        purses("the pot goes into the box", ties, 30, 989, 989, 989);

        SavingsCircle behind = Check.circle("C10m999m999m999m999");
        behind.month();
        behind.stayAway(1, true);
        behind.bid(3, 2);
        Check.due("the greatest bid before whose turn it is", behind.month(), 3);
        behind.stayAway(2, true);
        Check.due("behind the last the row goes on from 0", behind.month(), 1);
        behind.undo();
        behind.stayAway(2, false);
        Check.due("the row begins with the month's member", behind.month(), 2);

        SavingsCircle half = Check.circle("C09m999m999m999");
        half.bid(1, 999);
        half.bid(0, 13);
        Check.due("a bid above half of 27 counts as 13", half.winner(), 0);
        half.bid(0, 12);
        Check.due("a bid of 12 is less", half.winner(), 1);
        half.bid(2, 14);
        Check.due("of two that count 13 the first in the row", half.month(), 1);
        Check.due("what it got", half.member(1, 8), 14);

        SavingsCircle missing = Check.circle("C10m005m100b0999");
        Check.due("one that misses does not take it", missing.month(), 1);

        SavingsCircle round = Check.circle("C10m100m100m100m100b2001");
        round.month();
        round.bid(3, 1);
        round.month();
        Check.due("behind the last comes 0", round.month(), 0);

        SavingsCircle left = Check.circle("C10m100m100m100m100b1001");
        left.month();
        for (int k = 0; k < 2; k++) {
            left.stayAway(0, true);
            left.stayAway(2, true);
            left.stayAway(3, true);
            left.month();
        }
        left.leave(1);
        Check.due("the number of all members counts, also of those that left", left.month(), 3);

        SavingsCircle nobody = Check.circle("C10m005");
        Check.due("nobody pays", nobody.month(), NONE);
        Check.due("the month goes by all the same", nobody.about(2), 1);
    }

    /** Part 4. */
    private static void monthShares() {
        Check.says(0, "Of the pot, its bid (as it counts) is shared:");
        SavingsCircle three = Check.circle("C10m100m100m100m100b0011");
        Check.due("the bidder", three.month(), 0);
        purses("11 for three", three, 2, 90 + 29, 93, 93, 93);
        Check.due("its share", three.member(1, 9), 3);
        Check.due("the winner has none", three.member(0, 9), 0);
        Check.due("what it got", three.member(0, 8), 29);

        SavingsCircle alone = Check.circle("C10m100b0004");
        alone.month();
        purses("a bid that nobody shares", alone, 4, 96);

        SavingsCircle missed = Check.circle("C10m100m100m005b0010");
        missed.month();
        purses("one that misses gets no share", missed, 0, 100, 100, 5);

        SavingsCircle paid = Check.circle("C10m100m000m100g10b0015");
        paid.month();
        purses("one that is paid for gets a share", paid, 1, 80 + 15, 7, 90 + 7);
        Check.due("the guarantor is 0", paid.member(0, 7), 10);
    }

    /** Part 4, debts, and part 5. */
    private static void monthEnds() {
        SavingsCircle x = Check.circle("C10m010m100m100m100g01b1001b2002");
        x.stayAway(0, true);
        x.month();
        x.setGuarantor(0, 3);
        x.stayAway(0, true);
        x.bid(1, 20);
        x.month();
        Check.due("owes(0, 1)", x.owes(0, 1), 10);
        Check.due("owes(0, 3)", x.owes(0, 3), 10);
        Check.due("pence that are owed", x.about(7), 20);
        x.setContribution(5);
        x.leave(2);
        x.bid(0, 3);
        int lender = x.member(1, 0);
        int second = x.member(3, 0);
        Check.due("the debtor takes the pot", x.month(), 0);
        Check.due("pot of 15, bid 3: its first creditor gets all of 10", x.owes(0, 1), 0);
        Check.due("the second one the rest of 2", x.owes(0, 3), 8);
        Check.due("purse of the first", x.member(1, 0), lender - 5 + 1 + 10);
        Check.due("purse of the second", x.member(3, 0), second - 5 + 1 + 2);
        Check.due("nothing for the debtor", x.member(0, 0), 10 + shares(x, 0) - 5);
        Check.due("what it got tells also what it paid back", x.member(0, 8), 12);

        SavingsCircle last = Check.circle("C10m999");
        for (int k = 0; k < 99; k++) {
            last.month();
        }
        last.stayAway(0, true);
        Check.due("the month is 99", last.about(2), 99);
        Check.refused(last, "month() in 99", Check.STATE, () -> last.month());
        last.undo();
        Check.due("its mark is taken back", last.member(0, 3), 0);

        SavingsCircle empty = Check.circle("C10m100");
        empty.leave(0);
        Check.refused(empty, "month() with nobody", Check.STATE, () -> empty.month());

        SavingsCircle clean = Check.circle("C10m100m100b1007b0003");
        clean.stayAway(0, true);
        clean.month();
        Check.due("all bids become 0", clean.member(0, 2) + clean.member(1, 2), 0);
        Check.due("all marks go", clean.member(0, 3), 0);
        Check.due("the next month comes", clean.about(2), 1);

        SavingsCircle gone = Check.circle("C10m010m100g01");
        gone.stayAway(0, true);
        gone.bid(1, 1);
        gone.month();
        gone.give(1, 500);
        gone.leave(1);
        int before = gone.member(1, 0);
        Check.due("the debtor wins", gone.month(), 0);
        Check.due("a creditor that left is paid", gone.member(1, 0), before + 10);
    }

    private static int shares(SavingsCircle x, int i) {
        return x.member(i, 9);
    }

    private static void leave() {
        Check.says(18, "A member leaves the circle.");
        Check.says(18, "`i`: member");
        Check.says(0, "A member in the circle can leave.");
        SavingsCircle x = Check.circle("C07m100m100m100b1003");
        Check.due("the winner", x.month(), 1);
        purses("after the month", x, 1, 94, 111, 94);
        Check.due("leave before the pot: half of 7, but no more than the box", x.leave(0), 1);
        purses("after it left", x, 0, 95, 111, 94);
        Check.due("it is not in the circle", x.member(0, 5), 0);
        Check.refused(x, "leave twice", Check.STATE, () -> x.leave(0));
        Check.due("leave after the pot: for one other", x.leave(1), -7);
        purses("after two left", x, 7, 95, 104, 94);
        Check.due("half of 7 from a full box", x.leave(2), 3);
        purses("after three left", x, 4, 95, 104, 97);
        Check.due("nobody is in the circle", x.about(1), 0);
        Check.refused(x, "leave(3)", Check.NO_SUCH, () -> x.leave(3));
        Check.refused(x, "leave(-1)", Check.NO_SUCH, () -> x.leave(-1));

        SavingsCircle poor = Check.circle("C10m010m100m100b0015");
        poor.month();
        Check.due("purse", poor.member(0, 0), 15);
        Check.refused(poor, "leave of one that cannot pay 20", Check.STATE, () -> poor.leave(0));
        poor.give(0, 5);
        Check.due("leave of one that just can", poor.leave(0), -20);
        Check.due("its purse", poor.member(0, 0), 0);

        SavingsCircle others = Check.circle("C10m100m100m100g01");
        others.stayAway(0, true);
        others.bid(1, 0);
        others.month();
        others.month();
        others.month();
        Check.due("all have taken it", others.about(6), 0);
        Check.due("leave when nobody waits", others.leave(0), 0);

        SavingsCircle paidFor = Check.circle("C50m999m000m100g10");
        paidFor.stayAway(2, true);
        paidFor.bid(0, 50);
        paidFor.month();
        paidFor.month();
        paidFor.month();
        paidFor.month();
        Check.due("the box", paidFor.about(4) > 50 ? 1 : 0, 1);
        paidFor.addMember(0);
        paidFor.addMember(0);
        paidFor.setGuarantor(3, 0);
        paidFor.setGuarantor(4, 0);
        Check.due("one that is paid for takes the pot", paidFor.month(), 4);
        Check.due("the other did not miss", paidFor.member(3, 10), 0);
        Check.due("what others paid for it does not count", paidFor.leave(3), 0);

        SavingsCircle debts = Check.circle("C10m100m010g10");
        debts.stayAway(1, true);
        debts.month();
        debts.bid(1, 5);
        debts.stayAway(1, true);
        debts.leave(1);
        Check.due("what it owes stays", debts.owes(1, 0), 10);
        Check.due("its bid stays", debts.member(1, 2), 5);
        Check.due("its mark stays", debts.member(1, 3), 1);
    }

    private static void repay() {
        Check.says(19, "`i`: member who owes");
        Check.says(19, "`j`: another member");
        Check.says(19, "Returns the pence that it pays.");
        SavingsCircle x = Check.circle("C10m100m006g10");
        x.month();
        Check.due("owes(1, 0)", x.owes(1, 0), 10);
        Check.due("repay as far as the purse goes", x.repay(1, 0), 6);
        Check.due("the purse", x.member(1, 0), 0);
        Check.due("the other's", x.member(0, 0), 80 + 20 + 6);
        Check.due("still owed", x.owes(1, 0), 4);
        Check.due("repay with nothing", x.repay(1, 0), 0);
        x.give(1, 9);
        x.leave(1);
        Check.due("repay all, also of one that left", x.repay(1, 0), 4);
        Check.due("the purse", x.member(1, 0), 5);
        Check.due("repay nothing", x.repay(1, 0), 0);
        Check.due("the other way", x.repay(0, 1), 0);
        Check.refused(x, "repay(2, 0)", Check.NO_SUCH, () -> x.repay(2, 0));
        Check.refused(x, "repay(0, 2)", Check.NO_SUCH, () -> x.repay(0, 2));
        Check.refused(x, "repay(2, 2)", Check.NO_SUCH, () -> x.repay(2, 2));
        Check.refused(x, "repay(1, 1)", Check.ARGUMENT, () -> x.repay(1, 1));
    }

    private static void undo() {
        Check.says(20, "Takes back the last action that is remembered.");
        SavingsCircle x = new SavingsCircle();
        for (int k = 0; k < 20; k++) {
            x.setContribution(k + 1);
        }
        for (int k = 13; k >= 0; k--) {
            Check.due("undo", x.undo(), k);
            Check.due("contribution", x.about(3), k + 6);
        }
        Check.refused(x, "undo of a state that is forgotten", Check.STATE, () -> x.undo());
        Check.due("the oldest that is remembered", x.about(3), 6);
        x.setContribution(6);
        Check.due("also what makes nothing different is an action", x.undo(), 0);
        x.setContribution(9);
        x.append('C');
        x.save(0);
        Check.due("undo", x.undo(), 0);
        Check.due("undo leaves the text", x.clearText(), 1);
        x.restore(0);
        Check.due("undo leaves the save slots", x.about(3), 9);
    }

    /** Each action is remembered once; undo brings back all that can be asked. */
    private static void undoOfEach() {
        String before = Check.all(afterAMonth());
        for (int k = 0; k < 9; k++) {
            SavingsCircle x = afterAMonth();
            switch (k) {
                case 0: x.addMember(4); break;
                case 1: x.setContribution(4); break;
                case 2: x.setGuarantor(0, 1); break;
                case 3: x.bid(0, 4); break;
                case 4: x.stayAway(0, true); break;
                case 5: x.give(0, 4); break;
                case 6: x.month(); break;
                case 7: x.leave(2); break;
                default: x.repay(1, 0); break;
            }
            Check.due("undo behind action " + k, x.undo(), 1);
            Check.same("undo of action " + k, Check.all(x), before);
        }
        SavingsCircle x = afterAMonth();
        x.winner();
        x.pot();
        x.change(0);
        x.leastBid(0);
        x.pillar();
        x.when(0);
        x.inTheEnd(0);
        x.runScript(1, 10001);
        x.simulate(1, 1);
        x.save(0);
        x.errorPosition();
        Check.same("none of these changes the state", Check.all(x), before);
        Check.due("nor is one of them remembered", x.undo(), 0);
    }

    private static SavingsCircle afterAMonth() {
        SavingsCircle x = Check.circle("C10m100m006m100g10b2003");
        x.month();
        return x;
    }
}
