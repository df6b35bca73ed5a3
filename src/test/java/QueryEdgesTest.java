import java.io.IOException;
import java.util.function.Supplier;

/** The boundary cases of promises 6 to 10, sentence by sentence. */
final class QueryEdgesTest {
    private static final int NONE = Check.NONE;
    private static final int[] FAR = {NONE, Integer.MIN_VALUE, Integer.MAX_VALUE};

    public static void main(String[] args) throws IOException {
        Check.readDocument(args);
        aboutWhat();
        aboutMembers();
        aboutPence();
        memberWhat();
        memberNone();
        memberGot();
        memberPaid();
        memberMissed();
        owes();
        chainEnds();
        chainMeets();
        rateWithoutDivisor();
        rates();
        theyChangeNothing();
        Check.end();
    }

    private static void aboutWhat() {
        Check.says(6, "Throws `IllegalArgumentException` if what is not 0 to 8");
        SavingsCircle x = Circles.rich();
        Check.due("about(0)", x.about(0), 4);
        Check.due("about(8)", x.about(8), 451);
        Check.refused(x, "about(-1)", Check.ARGUMENT, () -> x.about(-1));
        Check.refused(x, "about(9)", Check.ARGUMENT, () -> x.about(9));
        for (int far : FAR) {
            Check.refused(x, "about(" + far + ")", Check.ARGUMENT, () -> x.about(far));
        }
    }

    private static void aboutMembers() {
        Check.says(6, "0: the number of members; 1: of those in the circle; 2: the month; 3: the contribution; 4: the pence in the box; 5: in all purses together; 6: the members in the circle who have not taken the pot;");
        SavingsCircle x = Check.circle("C10m100m100m100");
        x.month();
        members(x, 3, 3, 2);
        x.leave(1);
        members(x, 3, 2, 1);
        x.leave(0);
        members(x, 3, 1, 1);
        x.leave(2);
        members(x, 3, 0, 0);
        x.addMember(0);
        members(x, 4, 1, 1);
        Check.due("the month", x.about(2), 1);
        SavingsCircle eight = Check.circle("C50" + "m000".repeat(8));
        members(eight, 8, 8, 8);
        Check.due("the contribution", eight.about(3), 50);
        members(new SavingsCircle(), 0, 0, 0);
    }

    private static void members(SavingsCircle x, int all, int inside, int waiting) {
        Check.due("about(0)", x.about(0), all);
        Check.due("about(1)", x.about(1), inside);
        Check.due("about(6)", x.about(6), waiting);
    }

    private static void aboutPence() {
        Check.says(6, "7: the pence that are owed by all together; 8: the pence that were given to members so far (also as first purses)");
        SavingsCircle x = Check.circle("C10m100m000m000m100g10g23b0001");
        Check.due("given by the text", x.about(8), 200);
        Check.due("owed at first", x.about(7), 0);
        x.month();
        Check.due("owed to two", x.about(7), 20);
        x.leave(0);
        Check.due("owed, when one has left", x.about(7), 20);
        x.give(1, 4);
        x.repay(1, 0);
        Check.due("owed, when some was repaid", x.about(7), 16);
        Check.due("given then", x.about(8), 204);
        x.addMember(0);
        Check.due("given with an empty first purse", x.about(8), 204);
        x.addMember(999);
        Check.due("given with a first purse", x.about(8), 1203);
        x.undo();
        Check.due("given after undo", x.about(8), 204);
        Check.due("in purses and in the box", x.about(5) + x.about(4), 204);
    }

    private static void memberWhat() {
        Check.says(7, "Throws `IndexOutOfBoundsException` if there is no such member");
        Check.says(7, "Throws `IllegalArgumentException` if what is not 0 to 10");
        SavingsCircle x = Circles.rich();
        Check.due("member(0, 0)", x.member(0, 0), 85);
        Check.due("member(3, 10)", x.member(3, 10), 0);
        Check.refused(x, "member(4, 0)", Check.NO_SUCH, () -> x.member(4, 0));
        Check.refused(x, "member(-1, 0)", Check.NO_SUCH, () -> x.member(-1, 0));
        Check.refused(x, "member(3, 11)", Check.ARGUMENT, () -> x.member(3, 11));
        Check.refused(x, "member(3, -1)", Check.ARGUMENT, () -> x.member(3, -1));
        Check.refused(x, "member(4, 11)", Check.NO_SUCH, () -> x.member(4, 11));
        for (int far : FAR) {
            Check.refused(x, "member(" + far + ", 0)", Check.NO_SUCH, () -> x.member(far, 0));
            Check.refused(x, "member(0, " + far + ")", Check.ARGUMENT, () -> x.member(0, far));
        }
    }

    private static void memberNone() {
        Check.says(7, "1: its guarantor, NONE without one; 2: its bid; 3: 1 if it stays away, otherwise 0; 4: 1 if it has taken the pot, otherwise 0; 5: 1 if it is in the circle, otherwise 0;");
        SavingsCircle x = Check.circle("C10m100m100g10");
        Check.due("no guarantor", x.member(0, 1), NONE);
        Check.due("the guarantor 0", x.member(1, 1), 0);
        x.setGuarantor(1, NONE);
        Check.due("no guarantor any more", x.member(1, 1), NONE);
        x.bid(1, 7);
        x.stayAway(1, true);
        Check.due("bid, mark, taken, inside", fourOf(x, 1), 7101);
        Check.due("of the other", fourOf(x, 0), 1);
        x.month();
        Check.due("after the month", fourOf(x, 1), 1);
        Check.due("of the other", fourOf(x, 0), 11);
        x.leave(0);
        Check.due("of the other, who has left", fourOf(x, 0), 10);
    }

    private static int fourOf(SavingsCircle x, int i) {
        return 1000 * x.member(i, 2) + 100 * x.member(i, 3) + 10 * x.member(i, 4) + x.member(i, 5);
    }

    private static void memberGot() {
        Check.says(7, "8: what it got of the pot that it took (without its bid, with what it paid to those whom it owed); 9: its shares of bids;");
        SavingsCircle x = Check.circle("C10m000m100m100g01b1007");
        x.month();
        Check.due("30 without a bid of 7", x.member(1, 8), 23);
        Check.due("the shares", 10 * x.member(0, 9) + x.member(2, 9), 33);
        x.bid(0, 4);
        x.setGuarantor(0, 2);
        x.month();
        Check.due("30 without a bid of 4, although debts were paid of it", x.member(0, 8), 26);
        Check.due("shares of both months", x.member(2, 9), 3 + 2);
        Check.due("who took it gets shares of the next one", x.member(1, 9), 2);
        Check.due("its own pot stays", x.member(1, 8), 23);
        x.month();
        x.month();
        Check.due("nothing more when nobody takes it", x.member(0, 8) + x.member(1, 8) + x.member(2, 8), 26 + 23 + 30);
    }

    private static void memberPaid() {
        Check.says(7, "6: the pence that it paid into pots from its own purse for itself; 7: those that it paid for others;");
        SavingsCircle x = Check.circle("C10m000m100m000g01g21b1001");
        x.month();
        Check.due("for itself", x.member(1, 6), 10);
        Check.due("for two others", x.member(1, 7), 20);
        Check.due("paid by those", x.member(0, 6) + x.member(2, 6) + x.member(0, 7) + x.member(2, 7), 0);
        x.give(1, 50);
        x.leave(1);
        Check.due("what it pays when it leaves is not for a pot", 100 * x.member(1, 6) + x.member(1, 7), 1020);
        x.give(0, 30);
        x.repay(0, 1);
        Check.due("nor is what is repaid", x.member(0, 6) + x.member(0, 7), 0);
        SavingsCircle sum = Check.circle("C10m000m500g01");
        sum.stayAway(1, true);
        for (int k = 0; k <= 4; k++) {
            Check.due("for itself in " + k + " months", sum.member(1, 6), k == 0 ? 0 : 11 * k - 1);
            Check.due("for another in " + k + " months", sum.member(1, 7), k == 0 ? 0 : 11 * k - 1);
            sum.stayAway(1, false);
            sum.stayAway(0, true);
            sum.month();
            sum.setContribution(11);
        }
    }

    private static void memberMissed() {
        Check.says(7, "10: how often it missed a month");
        SavingsCircle x = Check.circle("C10m010m009m100g10b2001");
        x.month();
        Check.due("who pays, who misses", 10 * x.member(0, 10) + x.member(1, 10), 1);
        for (int k = 1; k <= 5; k++) {
            Check.due("before each month", x.member(1, 10), k);
            x.stayAway(1, true);
            x.stayAway(0, true);
            x.stayAway(2, true);
            x.month();
        }
        x.leave(1);
        x.month();
        Check.due("not after it has left", x.member(1, 10), 6);
    }

    private static void owes() {
        Check.says(8, "Throws `IndexOutOfBoundsException` if there is no such member");
        Check.says(8, "Throws `IllegalArgumentException` if both are the same");
        SavingsCircle x = Circles.rich();
        Check.due("owes(1, 0)", x.owes(1, 0), 10);
        Check.due("owes(0, 3)", x.owes(0, 3), 0);
        Check.due("owes(3, 0)", x.owes(3, 0), 0);
        Check.refused(x, "owes(3, 3)", Check.ARGUMENT, () -> x.owes(3, 3));
        Check.refused(x, "owes(4, 0)", Check.NO_SUCH, () -> x.owes(4, 0));
        Check.refused(x, "owes(0, 4)", Check.NO_SUCH, () -> x.owes(0, 4));
        Check.refused(x, "owes(4, 4)", Check.NO_SUCH, () -> x.owes(4, 4));
        Check.refused(x, "owes(-1, 0)", Check.NO_SUCH, () -> x.owes(-1, 0));
        for (int far : FAR) {
            Check.refused(x, "owes(0, " + far + ")", Check.NO_SUCH, () -> x.owes(0, far));
            Check.refused(x, "owes(" + far + ", 0)", Check.NO_SUCH, () -> x.owes(far, 0));
        }
    }

    private static void chainEnds() {
        Check.says(9, "Throws `IndexOutOfBoundsException` if there is no such member");
        SavingsCircle x = Check.circle("C10" + "m000".repeat(8) + "g01g12g23g34g45g56g67");
        for (int i = 0; i < 8; i++) {
            Check.due("chain(" + i + ") of a row", x.chain(i), 8 - i);
        }
        Check.refused(x, "chain(8)", Check.NO_SUCH, () -> x.chain(8));
        Check.refused(x, "chain(-1)", Check.NO_SUCH, () -> x.chain(-1));
        for (int far : FAR) {
            Check.refused(x, "chain(" + far + ")", Check.NO_SUCH, () -> x.chain(far));
        }
    }

    /** A ring of the last ones, into which a row leads: each length of both. */
    private static void chainMeets() {
        Check.says(9, "up to one that has none or was met already");
        Check.due("one without a guarantor", Check.circle("C10m000").chain(0), 1);
        for (int first = 0; first <= 6; first++) {
            SavingsCircle x = Check.circle("C10" + "m000".repeat(8) + "g01g12g23g34g45g56g67");
            x.setGuarantor(7, first);
            for (int i = 0; i < 8; i++) {
                Check.due("chain(" + i + ") into a ring from " + first, x.chain(i), 8 - Math.min(i, first));
            }
        }
        SavingsCircle two = Check.circle("C10m000m000g01g10");
        Check.due("two for each other", 10 * two.chain(0) + two.chain(1), 22);
        two.leave(1);
        Check.due("also when one has left", two.chain(0), 2);
    }

    private static void rateWithoutDivisor() {
        Check.says(10, "0 if the divisor is 0");
        Check.says(10, "Throws `IndexOutOfBoundsException` if there is no such member");
        SavingsCircle x = Check.circle("C10m000m100m100g01b1004");
        Check.due("nothing got, nothing paid", x.rate(0), 0);
        x.month();
        Check.due("something got", x.member(0, 9), 2);
        Check.due("nothing paid", x.rate(0), 0);
        Check.due("2 to 10", x.rate(2), Float.floatToIntBits(2f / 10f));
        x.bid(0, 1);
        x.month();
        Check.due("29 got of a pot", x.member(0, 8), 29);
        Check.due("still nothing paid", x.rate(0), 0);
        SavingsCircle nothing = Check.circle("C10m100m100");
        nothing.month();
        Check.due("nothing got, 10 paid", nothing.rate(1), 0);
        Check.refused(x, "rate(3)", Check.NO_SUCH, () -> x.rate(3));
        Check.refused(x, "rate(-1)", Check.NO_SUCH, () -> x.rate(-1));
        for (int far : FAR) {
            Check.refused(x, "rate(" + far + ")", Check.NO_SUCH, () -> x.rate(far));
        }
    }

    /** From the smallest quotients to the greatest ones, with whole numbers and powers of two among them. */
    private static void rates() {
        Check.says(10, "(the sum of member(i, 8) and member(i, 9), as a float) divided by (the sum of member(i, 6) and member(i, 7), as a float)");
        for (int c = 1; c <= 50; c++) {
            for (int n = 1; n <= 8; n++) {
                SavingsCircle x = new SavingsCircle();
                x.setContribution(c);
                for (int i = 0; i < n; i++) {
                    x.addMember(999);
                }
                x.bid(0, n - 1);
                Check.months(x, 1 + c % 12);
                for (int i = 0; i < n; i++) {
                    float got = (float) (x.member(i, 8) + x.member(i, 9));
                    Check.due("rate", x.rate(i), Float.floatToIntBits(got / (float) (x.member(i, 6) + x.member(i, 7))));
                }
            }
        }
        SavingsCircle great = Check.circle("C01" + "m001".repeat(7) + "m999");
        great.stayAway(7, true);
        great.bid(0, 3);
        great.month();
        Check.due("4 to 1", great.rate(0), 0x40800000);
        SavingsCircle both = Check.circle("C10m100m005m300g10b2015");
        both.month();
        Check.due("7 to 10 for itself and 10 for another", both.rate(0), Float.floatToIntBits(7f / 20f));
        Check.due("15 to 10", both.rate(2), 0x3fc00000);
        SavingsCircle small = Check.circle("C50m999m999b0001");
        small.month();
        small.stayAway(1, true);
        Check.months(small, 15);
        Check.due("1 and 0 to 750", small.member(1, 9), 1);
        Check.due("rate", small.rate(1), Float.floatToIntBits((float) (1 + small.member(1, 8)) / small.member(1, 6)));
    }

    private static void theyChangeNothing() {
        Check.says(0, "Each call of one of them that does not throw an exception is an action");
        for (Supplier<SavingsCircle> making : Circles.all()) {
            int n = making.get().about(0);
            for (int k = 0; k <= 8; k++) {
                int what = k;
                Check.leavesNoTrace("about", Check.NOTHING, making, x -> x.about(what));
            }
            for (int k = 0; k < n; k++) {
                int i = k;
                Check.leavesNoTrace("member", Check.NOTHING, making, x -> x.member(i, 10));
                Check.leavesNoTrace("owes", Check.NOTHING, making, x -> x.owes(i, i == 0 ? 1 : 0));
                Check.leavesNoTrace("chain", Check.NOTHING, making, x -> x.chain(i));
                Check.leavesNoTrace("rate", Check.NOTHING, making, x -> x.rate(i));
            }
        }
    }
}
