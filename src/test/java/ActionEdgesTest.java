import java.io.IOException;

/** The boundary cases of promises 11 to 19, sentence by sentence. */
final class ActionEdgesTest {
    private static final int NONE = Check.NONE;
    private static final int[] FAR = {NONE, Integer.MIN_VALUE, Integer.MAX_VALUE};

    public static void main(String[] args) throws IOException {
        Check.readDocument(args);
        addMember();
        addMemberFull();
        addMemberBeyond9000();
        setContribution();
        setGuarantor();
        setGuarantorSame();
        bidRange();
        bidState();
        stayAway();
        giveRange();
        giveAtMost9000();
        monthLast();
        monthOfNobody();
        monthAnswers();
        leave();
        leaveState();
        repay();
        repayAsFar();
        Check.end();
    }

    private static void addMember() {
        Check.says(11, "Adds a member, who is in the circle, without guarantor.");
        Check.says(11, "`purse`: 0 to 999");
        Check.says(11, "Throws `IllegalArgumentException` if purse is out of range");
        SavingsCircle x = new SavingsCircle();
        Check.refused(x, "addMember(-1)", Check.ARGUMENT, () -> x.addMember(-1));
        Check.due("addMember(0)", x.addMember(0), 0);
        Check.due("addMember(999)", x.addMember(999), 1);
        Check.refused(x, "addMember(1000)", Check.ARGUMENT, () -> x.addMember(1000));
        for (int far : FAR) {
            Check.refused(x, "addMember(" + far + ")", Check.ARGUMENT, () -> x.addMember(far));
        }
        for (int what = 0; what <= 10; what++) {
            int due = what == 0 ? 999 : what == 1 ? NONE : what == 5 ? 1 : 0;
            Check.due("member(1, " + what + ")", x.member(1, what), due);
        }
        Check.due("given", x.about(8), 999);
    }

    private static void addMemberFull() {
        Check.says(11, "Throws `IllegalStateException` if there are 8 members");
        SavingsCircle x = Check.circle("C10" + "m001".repeat(7));
        Check.due("the eighth", x.addMember(1), 7);
        Check.refused(x, "the ninth", Check.STATE, () -> x.addMember(1));
        Check.refused(x, "the ninth with 1000", Check.ARGUMENT, () -> x.addMember(1000));
        x.undo();
        Check.due("the eighth once more", x.addMember(5), 7);
        SavingsCircle y = Check.circle("C10" + "m001".repeat(8));
        y.leave(7);
        Check.refused(y, "the ninth when one has left", Check.STATE, () -> y.addMember(1));
    }

    /** The document bounds what give may give; it names no such bound for first purses. */
    private static void addMemberBeyond9000() {
        Check.says(11, "Throws `IllegalStateException` if there are 8 members");
        SavingsCircle x = Check.circle("C10" + "m999".repeat(7));
        x.give(0, 999);
        x.give(0, 999);
        x.give(0, 9);
        Check.due("given", x.about(8), 9000);
        Check.due("a first purse beyond it", x.addMember(999), 7);
        Check.due("given then", x.about(8), 9999);
        Check.refused(x, "a gift then", Check.STATE, () -> x.give(0, 1));
    }

    private static void setContribution() {
        Check.says(12, "`c`: 1 to 50");
        Check.says(12, "Throws `IllegalArgumentException` if c is out of range");
        SavingsCircle x = Check.circle("C10m050");
        Check.due("setContribution(1)", x.setContribution(1), 10);
        Check.due("pot", x.pot(), 1);
        Check.refused(x, "setContribution(0)", Check.ARGUMENT, () -> x.setContribution(0));
        Check.due("setContribution(50)", x.setContribution(50), 1);
        Check.due("pot", x.pot(), 50);
        Check.refused(x, "setContribution(51)", Check.ARGUMENT, () -> x.setContribution(51));
        Check.refused(x, "setContribution(-1)", Check.ARGUMENT, () -> x.setContribution(-1));
        for (int far : FAR) {
            Check.refused(x, "setContribution(" + far + ")", Check.ARGUMENT, () -> x.setContribution(far));
        }
        Check.due("the previous one", x.setContribution(50), 50);
    }

    private static void setGuarantor() {
        Check.says(13, "`g`: another member, or NONE");
        Check.says(13, "Throws `IndexOutOfBoundsException` if there is no such member");
        Check.says(13, "Returns the previous guarantor; NONE if it had none.");
        SavingsCircle x = Check.circle("C10m001m002m003");
        Check.due("the last one for the first one", x.setGuarantor(0, 2), NONE);
        Check.due("the first one for the last one", x.setGuarantor(2, 0), NONE);
        Check.due("NONE", x.setGuarantor(0, NONE), 2);
        Check.due("NONE once more", x.setGuarantor(0, NONE), NONE);
        Check.due("the previous one is 0", x.setGuarantor(2, 1), 0);
        Check.refused(x, "setGuarantor(0, 3)", Check.NO_SUCH, () -> x.setGuarantor(0, 3));
        Check.refused(x, "setGuarantor(3, 0)", Check.NO_SUCH, () -> x.setGuarantor(3, 0));
        Check.refused(x, "setGuarantor(3, NONE)", Check.NO_SUCH, () -> x.setGuarantor(3, NONE));
        Check.refused(x, "setGuarantor(NONE, 0)", Check.NO_SUCH, () -> x.setGuarantor(NONE, 0));
        Check.refused(x, "setGuarantor(0, -1)", Check.NO_SUCH, () -> x.setGuarantor(0, -1));
        Check.refused(x, "setGuarantor(0, NONE + 1)", Check.NO_SUCH, () -> x.setGuarantor(0, NONE + 1));
        Check.refused(x, "setGuarantor(0, NONE - 1)", Check.NO_SUCH, () -> x.setGuarantor(0, NONE - 1));
        x.leave(1);
        Check.due("one that has left", x.setGuarantor(0, 1), NONE);
        Check.due("for one that has left", x.setGuarantor(1, 0), NONE);
    }

    private static void setGuarantorSame() {
        Check.says(13, "Throws `IllegalArgumentException` if both are the same");
        SavingsCircle x = Check.circle("C10m001m002m003");
        for (int k = 0; k < 3; k++) {
            int i = k;
            Check.refused(x, "setGuarantor of one for itself", Check.ARGUMENT, () -> x.setGuarantor(i, i));
        }
        Check.refused(x, "setGuarantor(3, 3)", Check.NO_SUCH, () -> x.setGuarantor(3, 3));
        Check.refused(x, "setGuarantor(NONE, NONE)", Check.NO_SUCH, () -> x.setGuarantor(NONE, NONE));
    }

    private static void bidRange() {
        Check.says(14, "`n`: 0 to 999");
        Check.says(14, "Throws `IllegalArgumentException` if n is out of range");
        Check.says(14, "Throws `IndexOutOfBoundsException` if there is no such member");
        SavingsCircle x = Check.circle("C10m001m002b0005");
        Check.due("bid(0, 0)", x.bid(0, 0), 5);
        Check.refused(x, "bid(0, -1)", Check.ARGUMENT, () -> x.bid(0, -1));
        Check.due("bid(0, 999)", x.bid(0, 999), 0);
        Check.refused(x, "bid(0, 1000)", Check.ARGUMENT, () -> x.bid(0, 1000));
        Check.due("bid(1, 1)", x.bid(1, 1), 0);
        Check.refused(x, "bid(2, 1)", Check.NO_SUCH, () -> x.bid(2, 1));
        Check.refused(x, "bid(-1, 1)", Check.NO_SUCH, () -> x.bid(-1, 1));
        for (int far : FAR) {
            Check.refused(x, "bid(0, " + far + ")", Check.ARGUMENT, () -> x.bid(0, far));
            Check.refused(x, "bid(" + far + ", 0)", Check.NO_SUCH, () -> x.bid(far, 0));
        }
    }

    private static void bidState() {
        Check.says(14, "Throws `IllegalStateException` if it is not in the circle, or has taken the pot");
        SavingsCircle x = Check.circle("C10m100m100m100");
        x.month();
        Check.refused(x, "bid of one that has taken the pot", Check.STATE, () -> x.bid(0, 0));
        Check.refused(x, "its bid of 1000", Check.ARGUMENT, () -> x.bid(0, 1000));
        x.leave(1);
        Check.refused(x, "bid of one that has left", Check.STATE, () -> x.bid(1, 0));
        x.leave(0);
        Check.refused(x, "bid of one that has taken the pot and left", Check.STATE, () -> x.bid(0, 0));
        x.stayAway(2, true);
        Check.due("bid of one that stays away", x.bid(2, 9), 0);
        x.undo();
        x.undo();
        x.undo();
        x.undo();
        Check.due("bid of one that has not left any more", x.bid(1, 1), 0);
    }

    private static void stayAway() {
        Check.says(15, "Throws `IndexOutOfBoundsException` if there is no such member");
        Check.says(15, "Returns whether it did.");
        SavingsCircle x = Check.circle("C10m100m100");
        Check.due("it did not", x.stayAway(1, true) ? 1 : 0, 0);
        Check.due("it did", x.stayAway(1, true) ? 1 : 0, 1);
        Check.due("it did, once more", x.stayAway(1, false) ? 1 : 0, 1);
        Check.due("it did not", x.stayAway(1, false) ? 1 : 0, 0);
        Check.refused(x, "stayAway(2, true)", Check.NO_SUCH, () -> x.stayAway(2, true) ? 1 : 0);
        Check.refused(x, "stayAway(-1, true)", Check.NO_SUCH, () -> x.stayAway(-1, true) ? 1 : 0);
        x.month();
        Check.due("one that has taken the pot", x.stayAway(0, true) ? 1 : 0, 0);
        x.leave(1);
        Check.due("one that has left", x.stayAway(1, true) ? 1 : 0, 0);
        Check.due("their marks", x.member(0, 3) + x.member(1, 3), 2);
        for (int far : FAR) {
            Check.refused(x, "stayAway(" + far + ", false)", Check.NO_SUCH, () -> x.stayAway(far, false) ? 1 : 0);
        }
    }

    private static void giveRange() {
        Check.says(16, "`n`: 1 to 999");
        Check.says(16, "Throws `IllegalArgumentException` if n is out of range");
        Check.says(16, "Throws `IndexOutOfBoundsException` if there is no such member");
        SavingsCircle x = Check.circle("C10m000m002");
        Check.due("give(0, 1)", x.give(0, 1), 1);
        Check.refused(x, "give(0, 0)", Check.ARGUMENT, () -> x.give(0, 0));
        Check.refused(x, "give(0, -1)", Check.ARGUMENT, () -> x.give(0, -1));
        Check.due("give(1, 999)", x.give(1, 999), 1001);
        Check.refused(x, "give(0, 1000)", Check.ARGUMENT, () -> x.give(0, 1000));
        Check.refused(x, "give(2, 1)", Check.NO_SUCH, () -> x.give(2, 1));
        Check.refused(x, "give(-1, 1)", Check.NO_SUCH, () -> x.give(-1, 1));
        for (int far : FAR) {
            Check.refused(x, "give(0, " + far + ")", Check.ARGUMENT, () -> x.give(0, far));
            Check.refused(x, "give(" + far + ", 1)", Check.NO_SUCH, () -> x.give(far, 1));
        }
        x.leave(0);
        Check.due("give to one that has left", x.give(0, 2), 3);
    }

    private static void giveAtMost9000() {
        Check.says(16, "Throws `IllegalStateException` if more than 9000 pence would have been given to all members so far");
        SavingsCircle x = Check.circle("C10m999m000");
        for (int k = 0; k < 8; k++) {
            x.give(k % 2, 999);
        }
        Check.due("given", x.about(8), 8991);
        Check.refused(x, "10 more, 9001 in all", Check.STATE, () -> x.give(0, 10));
        Check.refused(x, "999 more", Check.STATE, () -> x.give(1, 999));
        Check.refused(x, "1000 more", Check.ARGUMENT, () -> x.give(1, 1000));
        x.give(0, 8);
        Check.due("given", x.about(8), 8999);
        Check.refused(x, "2 more, 9001 in all", Check.STATE, () -> x.give(0, 2));
        x.give(0, 1);
        Check.due("given", x.about(8), 9000);
        Check.refused(x, "1 more, 9001 in all", Check.STATE, () -> x.give(0, 1));
        x.leave(0);
        x.month();
        Check.refused(x, "1 more, later", Check.STATE, () -> x.give(1, 1));
        x.undo();
        x.undo();
        x.undo();
        Check.due("1 more, after undo", x.give(1, 1), 3997);
    }

    private static void monthLast() {
        Check.says(17, "Throws `IllegalStateException` if nobody is in the circle, or the month is 99");
        SavingsCircle x = Check.circle("C10m100");
        for (int k = 0; k < 99; k++) {
            Check.due("the month", x.about(2), k);
            Check.due("month() in " + k, x.month(), k == 0 ? 0 : NONE);
        }
        Check.due("the last month", x.about(2), 99);
        Check.refused(x, "month() in 99", Check.STATE, () -> x.month());
        x.undo();
        Check.due("the month before it", x.about(2), 98);
        Check.due("month() in 98", x.month(), NONE);
        Check.refused(x, "month() in 99 again", Check.STATE, () -> x.month());
        x.leave(0);
        Check.refused(x, "month() in 99 with nobody", Check.STATE, () -> x.month());
        x.load();
        Check.due("month() of a loaded circle", x.month(), 0);
    }

    private static void monthOfNobody() {
        Check.says(17, "Throws `IllegalStateException` if nobody is in the circle");
        SavingsCircle x = new SavingsCircle();
        Check.refused(x, "month() without members", Check.STATE, () -> x.month());
        x.addMember(0);
        Check.due("month() with one that cannot pay", x.month(), NONE);
        x.leave(0);
        Check.refused(x, "month() when all have left", Check.STATE, () -> x.month());
        x.addMember(0);
        Check.due("month() with a new one", x.month(), NONE);
    }

    private static void monthAnswers() {
        Check.says(17, "Returns the member who takes the pot; NONE if nobody does.");
        SavingsCircle x = Check.circle("C10" + "m900".repeat(8) + "b7001");
        Check.due("the last member", x.month(), 7);
        for (int k = 0; k < 7; k++) {
            Check.due("the others", x.month(), k < 6 ? k + 1 : 0);
        }
        Check.due("nobody", x.month(), NONE);
    }

    private static void leave() {
        Check.says(18, "Returns what it gets (less than 0: what it pays).");
        Check.says(18, "Throws `IndexOutOfBoundsException` if there is no such member");
        SavingsCircle x = Check.circle("C03m100m100m100b0001");
        x.month();
        Check.due("the box", x.about(4), 1);
        Check.refused(x, "leave(3)", Check.NO_SUCH, () -> x.leave(3));
        Check.refused(x, "leave(-1)", Check.NO_SUCH, () -> x.leave(-1));
        for (int far : FAR) {
            Check.refused(x, "leave(" + far + ")", Check.NO_SUCH, () -> x.leave(far));
        }
        Check.due("half of 3 pence", x.leave(2), 1);
        Check.due("nothing from an empty box", x.leave(1), 0);
        Check.due("nothing to pay", x.leave(0), 0);
        SavingsCircle y = Check.circle("C03m100m100m100");
        y.month();
        Check.due("for two others", y.leave(0), -6);
    }

    private static void leaveState() {
        Check.says(18, "Throws `IllegalStateException` if it is not in the circle, or cannot pay");
        SavingsCircle x = Check.circle("C10m010m010m010");
        x.month();
        Check.due("the purse", x.member(0, 0), 30);
        x.setContribution(16);
        Check.refused(x, "leave for 32", Check.STATE, () -> x.leave(0));
        x.setContribution(15);
        Check.due("leave for 30", x.leave(0), -30);
        Check.refused(x, "leave again", Check.STATE, () -> x.leave(0));
        x.give(0, 500);
        Check.refused(x, "leave again with pence", Check.STATE, () -> x.leave(0));
        Check.due("one that waits with an empty purse", x.leave(1), 5);
        Check.refused(x, "leave again", Check.STATE, () -> x.leave(1));
    }

    private static void repay() {
        Check.says(19, "Throws `IndexOutOfBoundsException` if there is no such member");
        Check.says(19, "Throws `IllegalArgumentException` if both are the same");
        SavingsCircle x = Check.circle("C10m000m100g01b1001");
        x.month();
        Check.refused(x, "repay(2, 0)", Check.NO_SUCH, () -> x.repay(2, 0));
        Check.refused(x, "repay(0, 2)", Check.NO_SUCH, () -> x.repay(0, 2));
        Check.refused(x, "repay(-1, -1)", Check.NO_SUCH, () -> x.repay(-1, -1));
        Check.refused(x, "repay(0, 0)", Check.ARGUMENT, () -> x.repay(0, 0));
        Check.refused(x, "repay(1, 1)", Check.ARGUMENT, () -> x.repay(1, 1));
        for (int far : FAR) {
            Check.refused(x, "repay(0, " + far + ")", Check.NO_SUCH, () -> x.repay(0, far));
            Check.refused(x, "repay(" + far + ", 0)", Check.NO_SUCH, () -> x.repay(far, 0));
        }
        Check.due("repay(1, 0) of nothing", x.repay(1, 0), 0);
    }

    /** 0 owes 10 and has from 0 to 12 pence. */
    private static void repayAsFar() {
        Check.says(19, "A member pays what it owes to another one, as far as its purse goes.");
        for (int purse = 0; purse <= 12; purse++) {
            SavingsCircle x = Check.circle("C10m000m100m100g01b1001");
            x.month();
            if (purse > 0) {
                x.give(0, purse);
            }
            int other = x.member(1, 0);
            int paid = Math.min(10, purse);
            Check.due("repay with " + purse, x.repay(0, 1), paid);
            Check.due("still owed", x.owes(0, 1), 10 - paid);
            Check.due("its purse", x.member(0, 0), purse - paid);
            Check.due("the other one's", x.member(1, 0), other + paid);
            Check.due("repay to whom nothing is owed", x.repay(0, 2), 0);
            Check.due("repay again", x.repay(0, 1), 0);
            x.leave(0);
            x.leave(1);
            x.give(0, 20);
            Check.due("repay by one that has left, to one that has left", x.repay(0, 1), 10 - paid);
        }
    }
}
