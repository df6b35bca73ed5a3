import java.io.IOException;

/** The boundary cases that the terms name: "MEMBERS", "A MONTH" and "LEAVING", sentence by sentence. */
final class TermsEdgesTest {
    private static final int NONE = Check.NONE;

    public static void main(String[] args) throws IOException {
        Check.readDocument(args);
        calls();
        memberNumbers();
        pursesAndGuarantors();
        bids();
        marks();
        takenOnce();
        debts();
        contribution();
        monthsAndBox();
        paying();
        guarantors();
        guarantorsThatDoNotPay();
        missing();
        nobodyTakes();
        half();
        row();
        rowOfAllMembers();
        shares();
        sharesOfNobody();
        paidBack();
        intoPurses();
        afterTheMonth();
        pence();
        leavingBefore();
        whatCountsForLeaving();
        leavingAfter();
        leavingForNobody();
        whatStays();
        Check.end();
    }

    private static void calls() {
        Check.says(0, "An object is used for at most 512 calls after it has been made");
        SavingsCircle x = new SavingsCircle();
        for (int k = 1; k <= 511; k++) {
            Check.due("call " + k, x.setContribution(1 + k % 50), k == 1 ? 10 : 1 + (k - 1) % 50);
        }
        Check.due("call 512", x.undo(), 13);
    }

    private static void memberNumbers() {
        Check.says(0, "There are at most 8 members, numbered from 0 in the order in which they joined.");
        SavingsCircle x = new SavingsCircle();
        Check.refused(x, "member 0 of none", Check.NO_SUCH, () -> x.member(0, 0));
        for (int i = 0; i < 8; i++) {
            int next = i + 1;
            Check.due("addMember", x.addMember(100 + i), i);
            Check.due("its purse", x.member(i, 0), 100 + i);
            Check.refused(x, "the member behind the last", Check.NO_SUCH, () -> x.member(next, 0));
        }
        Check.refused(x, "a ninth member", Check.STATE, () -> x.addMember(0));
        Check.due("members", x.about(0), 8);
        x.leave(0);
        Check.refused(x, "a ninth member when one has left", Check.STATE, () -> x.addMember(0));
        Check.due("who has left keeps the number", x.member(0, 0), 100);
        Check.due("text with 8 members", Check.circle("C10" + "m001".repeat(8)).about(0), 8);
    }

    private static void pursesAndGuarantors() {
        Check.says(0, "A member has a purse with pence (0 or more), a guarantor (another member) or none, a bid");
        SavingsCircle x = Check.circle("C10m010m000");
        Check.due("guarantor at first", x.member(0, 1), NONE);
        x.setContribution(5);
        x.stayAway(1, true);
        x.month();
        x.month();
        x.month();
        Check.due("a purse that pays all it has", x.member(0, 0), 0);
        x.month();
        Check.due("an empty purse stays empty", x.member(0, 0), 0);
        x.setGuarantor(0, 1);
        x.setGuarantor(1, 0);
        Check.due("two that guarantee for each other", 10 * x.member(0, 1) + x.member(1, 1), 10);
        Check.refused(x, "a member as its own guarantor", Check.ARGUMENT, () -> x.setGuarantor(0, 0));
    }

    private static void bids() {
        Check.says(0, "for the pot of this month (0 to 999, at first 0)");
        SavingsCircle x = Check.circle("C10m010");
        Check.due("the bid at first", x.member(0, 2), 0);
        Check.due("bid(0, 999)", x.bid(0, 999), 0);
        Check.due("the bid then", x.member(0, 2), 999);
        Check.refused(x, "bid(0, 1000)", Check.ARGUMENT, () -> x.bid(0, 1000));
        Check.due("bid(0, 0)", x.bid(0, 0), 999);
        Check.refused(x, "bid(0, -1)", Check.ARGUMENT, () -> x.bid(0, -1));
        Check.due("the bid in the end", x.member(0, 2), 0);
    }

    private static void marks() {
        Check.says(0, "and perhaps a mark that it stays away this month;");
        SavingsCircle x = Check.circle("C10m100m100m100");
        Check.due("marks at first", marks(x), 0);
        x.stayAway(1, true);
        Check.due("the mark of 1", marks(x), 10);
        x.stayAway(2, true);
        Check.due("the marks of 1 and 2", marks(x), 11);
        x.stayAway(1, false);
        Check.due("the mark of 2", marks(x), 1);
        Check.due("the pot without 2", x.pot(), 20);
        x.month();
        Check.due("it stayed away", x.member(2, 10), 1);
        Check.due("this month alone", marks(x), 0);
        Check.due("the pot with 2", x.pot(), 30);
        Check.due("a new member has none", x.member(x.addMember(5), 3), 0);
    }

    private static int marks(SavingsCircle x) {
        return 100 * x.member(0, 3) + 10 * x.member(1, 3) + x.member(2, 3);
    }

    private static void takenOnce() {
        Check.says(0, "it has taken the pot once, or not; it is in the circle, or has left it.");
        SavingsCircle x = Check.circle("C01m999m999");
        Check.due("nobody has taken it at first", x.member(0, 4) + x.member(1, 4), 0);
        Check.due("month 0", x.month(), 0);
        Check.due("month 1", x.month(), 1);
        for (int k = 2; k < 6; k++) {
            Check.due("nobody takes it twice", x.month(), NONE);
        }
        Check.due("what the first got stays", x.member(0, 8), 2);
        Check.due("both are in the circle", x.member(0, 5) + x.member(1, 5), 2);
        x.leave(0);
        Check.due("one has left it", x.member(0, 5), 0);
        Check.due("it has taken the pot all the same", x.member(0, 4), 1);
    }

    private static void debts() {
        Check.says(0, "A member can owe pence to another one.");
        SavingsCircle x = Check.circle("C10m000m100g01");
        Check.due("nobody owes at first", x.owes(0, 1) + x.owes(1, 0), 0);
        x.bid(1, 1);
        x.month();
        Check.due("the one", x.owes(0, 1), 10);
        Check.due("not the other", x.owes(1, 0), 0);
        Check.refused(x, "owes(0, 0)", Check.ARGUMENT, () -> x.owes(0, 0));
    }

    private static void contribution() {
        Check.says(0, "The contribution is 1 to 50 pence, at first 10.");
        SavingsCircle x = new SavingsCircle();
        Check.due("at first", x.about(3), 10);
        Check.due("setContribution(1)", x.setContribution(1), 10);
        Check.refused(x, "setContribution(0)", Check.ARGUMENT, () -> x.setContribution(0));
        Check.due("setContribution(50)", x.setContribution(50), 1);
        Check.refused(x, "setContribution(51)", Check.ARGUMENT, () -> x.setContribution(51));
        Check.due("in the end", x.about(3), 50);
    }

    private static void monthsAndBox() {
        Check.says(0, "Months are numbered from 0. The circle has a box, which is empty at first.");
        SavingsCircle x = new SavingsCircle();
        Check.due("month of a new circle", x.about(2), 0);
        Check.due("box of a new circle", x.about(4), 0);
        SavingsCircle y = Check.circle("C10m100b0005");
        Check.due("month of a loaded circle", y.about(2), 0);
        Check.due("box of a loaded circle", y.about(4), 0);
        y.month();
        Check.due("the next month", y.about(2), 1);
        Check.due("the box then", y.about(4), 5);
    }

    private static void paying() {
        Check.says(0, "Each member in the circle, ascending, who does not stay away and whose purse has the contribution pays it into the pot.");
        for (int c = 1; c <= 50; c++) {
            SavingsCircle x = new SavingsCircle();
            x.setContribution(c);
            x.addMember(c);
            x.addMember(c - 1);
            x.addMember(999);
            x.addMember(999);
            x.stayAway(2, true);
            x.leave(3);
            Check.due("pot of just the contribution " + c, x.pot(), c);
            Check.due("it takes the pot", x.month(), 0);
            Check.due("who has it pays", x.member(0, 6), c);
            Check.due("who has one less does not", x.member(1, 6), 0);
            Check.due("and keeps what it has", x.member(1, 0), c - 1);
            Check.due("who stays away does not", x.member(2, 0), 999);
            Check.due("who has left does not", x.member(3, 0), 999);
        }
    }

    /** A guarantor for two members has just enough for none, one or both of them, or one penny less. */
    private static void guarantors() {
        Check.says(0, "if its guarantor is in the circle, has paid in part 1, and has the contribution in the purse (once more), the guarantor pays it into the pot, and the member owes the guarantor so much more.");
        for (int c = 1; c <= 50; c++) {
            for (int purse = c; purse <= 3 * c + 1; purse++) {
                SavingsCircle x = new SavingsCircle();
                x.setContribution(c);
                x.addMember(0);
                x.addMember(purse);
                x.addMember(0);
                x.setGuarantor(0, 1);
                x.setGuarantor(2, 1);
                int helped = purse / c - 1 > 2 ? 2 : purse / c - 1;
                Check.due("pot", x.pot(), c * (1 + helped));
                x.bid(1, 1);
                x.month();
                Check.due("owes(0, 1)", x.owes(0, 1), helped > 0 ? c : 0);
                Check.due("owes(2, 1)", x.owes(2, 1), helped > 1 ? c : 0);
                Check.due("paid for others", x.member(1, 7), c * helped);
                Check.due("who missed", x.member(0, 10) + 10 * x.member(2, 10), helped > 1 ? 0 : helped > 0 ? 10 : 11);
            }
        }
        SavingsCircle more = Check.circle("C10m000m500g01");
        more.bid(1, 5);
        more.month();
        more.stayAway(0, true);
        more.setContribution(7);
        more.month();
        Check.due("so much more, then all is paid from the pot", more.owes(0, 1), 3);
        Check.due("in all", more.member(1, 7), 17);
    }

    private static void guarantorsThatDoNotPay() {
        Check.says(0, "Otherwise the member misses this month.");
        SavingsCircle away = Check.circle("C10m000m500g01");
        away.stayAway(1, true);
        Check.due("a guarantor that stays away", away.pot(), 0);
        SavingsCircle left = Check.circle("C10m000m500g01");
        left.leave(1);
        Check.due("a guarantor that has left", left.pot(), 0);
        SavingsCircle helped = Check.circle("C10m000m009m500g01g12");
        Check.due("a guarantor that was paid for itself", helped.pot(), 20);
        helped.month();
        Check.due("who missed", helped.member(0, 10) + 10 * helped.member(1, 10) + 100 * helped.member(2, 10), 1);
        SavingsCircle none = Check.circle("C10m009m500");
        none.month();
        Check.due("no guarantor", none.member(0, 10), 1);
        SavingsCircle ring = Check.circle("C10m000m000m000m000m000m000m000m020g01g12g23g34g45g56g67g70b7001");
        Check.due("a ring of 8, of whom one pays", ring.pot(), 20);
        ring.month();
        Check.due("the one before it is paid for", ring.owes(6, 7), 10);
        Check.due("and the only one", ring.about(7), 10);
    }

    private static void missing() {
        Check.says(0, "Those who can take the pot are the members in the circle who have not taken it yet and do not miss this month.");
        SavingsCircle x = Check.circle("C10m009m500m500m500b0999");
        x.bid(1, 3);
        x.leave(1);
        x.stayAway(2, true);
        x.bid(2, 2);
        Check.due("neither who misses, nor who has left, nor who stays away", x.month(), 3);
        Check.due("who stayed away before", x.month(), 2);
        Check.due("who has one penny less than the contribution", x.month(), NONE);
        x.give(0, 1);
        Check.due("who has just the contribution", x.month(), 0);
        SavingsCircle helped = Check.circle("C10m000m500g01");
        Check.due("who is paid for can take it", helped.month(), 0);
    }

    private static void nobodyTakes() {
        Check.says(0, "If there are none, all of the pot goes into the box.");
        SavingsCircle x = Check.circle("C10m500m500m009");
        x.month();
        x.month();
        int before = x.about(4);
        Check.due("all that pay have taken it", x.month(), NONE);
        Check.due("the box", x.about(4), before + 20);
        Check.due("their purses", x.member(0, 0) + x.member(1, 0), 1000 - 20);
        SavingsCircle poor = Check.circle("C10m009m000");
        Check.due("nobody pays", poor.month(), NONE);
        Check.due("an empty pot", poor.about(4), 0);
    }

    private static void half() {
        Check.says(0, "Otherwise the one with the greatest bid takes it, where a bid above half of the pot (rounded down) counts as that half");
        for (int n = 1; n <= 8; n++) {
            for (int c = 1; c <= 50; c++) {
                int pot = n * c;
                for (int bid = pot / 2 - 1; bid <= pot / 2 + 2; bid++) {
                    if (bid >= 0) {
                        halfOf(n, c, bid);
                    }
                }
                halfOf(n, c, 999);
            }
        }
        SavingsCircle x = Check.circle("C09m100m100m100b2999");
        x.bid(1, 12);
        Check.due("12 against half of 27", x.winner(), 2);
        x.bid(1, 13);
        Check.due("13 against half of 27", x.winner(), 1);
        x.bid(1, 14);
        Check.due("14 against half of 27", x.winner(), 1);
        x.bid(0, 13);
        Check.due("13 of the first in the row", x.winner(), 0);
    }

    private static void halfOf(int n, int c, int bid) {
        SavingsCircle x = new SavingsCircle();
        x.setContribution(c);
        for (int i = 0; i < n; i++) {
            x.addMember(60);
        }
        x.bid(0, bid);
        x.month();
        Check.due("bid " + bid + " for the pot " + n * c, x.member(0, 8), n * c - Math.min(bid, n * c / 2));
    }

    /** Circles of 1 to 8 members who all bid the same, in some months, with all ways to stay away. */
    private static void row() {
        Check.says(0, "of several the one that comes first in this row: the member (the month, as the remainder by the number of all members), then those behind it, and then those from 0 on.");
        for (int n = 1; n <= 8; n++) {
            for (int month = 0; month <= 2 * n; month++) {
                for (int away = 0; away < 1 << n; away++) {
                    SavingsCircle x = waiting(n, month);
                    for (int i = 0; i < n; i++) {
                        x.bid(i, 1);
                        if ((away >> i & 1) == 1) {
                            x.stayAway(i, true);
                        }
                    }
                    Check.due(n + " members, month " + month + ", away " + away, x.winner(), firstInRow(n, month, away));
                }
            }
        }
    }

    /** No member could pay so far; now each one can. */
    private static SavingsCircle waiting(int n, int month) {
        SavingsCircle x = new SavingsCircle();
        x.setContribution(50);
        for (int i = 0; i < n; i++) {
            x.addMember(20);
        }
        Check.months(x, month);
        x.setContribution(2);
        return x;
    }

    private static int firstInRow(int n, int month, int away) {
        int first = month;
        while (first >= n) {
            first -= n;
        }
        for (int i = first; i < n; i++) {
            if ((away >> i & 1) == 0) {
                return i;
            }
        }
        for (int i = 0; i < first; i++) {
            if ((away >> i & 1) == 0) {
                return i;
            }
        }
        return NONE;
    }

    private static void rowOfAllMembers() {
        Check.says(0, "the member (the month, as the remainder by the number of all members)");
        SavingsCircle x = waiting(4, 3);
        x.leave(1);
        Check.due("month 3 of 4 members, of whom one has left", x.winner(), 3);
        SavingsCircle y = waiting(4, 5);
        y.leave(1);
        Check.due("month 5: it would be the turn of the one that left", y.winner(), 2);
        SavingsCircle z = waiting(4, 4);
        Check.due("month 4 of 4", z.winner(), 0);
        z.addMember(20);
        Check.due("month 4 of 5", z.winner(), 4);
    }

    private static void shares() {
        Check.says(0, "each other member in the circle who does not miss this month gets as much of it, rounded down; what is left goes into the box");
        for (int n = 2; n <= 8; n++) {
            for (int bid = 0; bid <= 5 * n; bid++) {
                SavingsCircle x = Check.circle("C10" + "m020".repeat(n));
                x.bid(0, bid);
                Check.due("the bidder", x.month(), 0);
                Check.due("box of bid " + bid + " for " + (n - 1), x.about(4), bid % (n - 1));
                Check.due("purse of the bidder", x.member(0, 0), 10 + 10 * n - bid);
                for (int i = 1; i < n; i++) {
                    Check.due("purse of another", x.member(i, 0), 10 + bid / (n - 1));
                    Check.due("share of another", x.member(i, 9), bid / (n - 1));
                }
            }
        }
        SavingsCircle y = Check.circle("C10m100m100m000m100m009m100g21b0013");
        y.leave(3);
        y.stayAway(5, true);
        y.month();
        Check.due("13 for two: shares", y.member(1, 9) + 10 * y.member(2, 9), 66);
        Check.due("none for who misses, stays away or has left", y.member(3, 9) + y.member(4, 9) + y.member(5, 9), 0);
        Check.due("the box", y.about(4), 1);
    }

    private static void sharesOfNobody() {
        Check.says(0, "(all of it, if there is no such member)");
        SavingsCircle x = Check.circle("C11m100m100m010b0999");
        x.leave(1);
        x.month();
        Check.due("half of 11 into the box", x.about(4), 5);
        Check.due("the bidder", x.member(0, 0), 100 - 11 + 6);
        Check.due("one that misses", x.member(2, 0), 10);
        SavingsCircle none = Check.circle("C11m100");
        none.month();
        Check.due("a bid of 0", none.about(4), 0);
    }

    /** One of three owes something to both others, and takes a pot that it alone has paid. */
    private static void paidBack() {
        Check.says(0, "With the rest of the pot it pays those whom it owes something, ascending, as far as it goes; what is left then comes into its purse.");
        for (int pot = 1; pot <= 50; pot++) {
            for (int debtor = 0; debtor < 3; debtor++) {
                int low = debtor == 0 ? 1 : 0;
                paidBack(pot, debtor, low, 3 - debtor - low, twoDebts(debtor, low, 3 - debtor - low));
                paidBack(pot, debtor, low, 3 - debtor - low, twoDebts(debtor, 3 - debtor - low, low));
            }
        }
    }

    /** The debt to the first creditor is 10, that to the second one, which is a month younger, 20. */
    private static SavingsCircle twoDebts(int debtor, int first, int second) {
        SavingsCircle x = new SavingsCircle();
        for (int i = 0; i < 3; i++) {
            x.addMember(i == debtor ? 0 : 500);
        }
        x.setGuarantor(debtor, first);
        x.bid(first, 1);
        x.month();
        x.setContribution(20);
        x.setGuarantor(debtor, second);
        x.bid(second, 1);
        x.month();
        Check.due("the debts at first", 100 * x.owes(debtor, first) + x.owes(debtor, second), 1020);
        return x;
    }

    private static void paidBack(int pot, int debtor, int low, int high, SavingsCircle x) {
        x.give(debtor, pot);
        x.setContribution(pot);
        x.stayAway(low, true);
        x.stayAway(high, true);
        int lowPurse = x.member(low, 0);
        int highPurse = x.member(high, 0);
        int owedLow = x.owes(debtor, low);
        int owedHigh = x.owes(debtor, high);
        int toLow = Math.min(pot, owedLow);
        int toHigh = Math.min(pot - toLow, owedHigh);
        Check.due("the debtor takes it", x.month(), debtor);
        Check.due("pot " + pot + ": owed to the lower one", x.owes(debtor, low), owedLow - toLow);
        Check.due("pot " + pot + ": owed to the higher one", x.owes(debtor, high), owedHigh - toHigh);
        Check.due("purse of the lower one", x.member(low, 0), lowPurse + toLow);
        Check.due("purse of the higher one", x.member(high, 0), highPurse + toHigh);
        Check.due("purse of the debtor", x.member(debtor, 0), pot - toLow - toHigh);
        Check.due("what it got of the pot", x.member(debtor, 8), pot);
        Check.due("what is paid back is no share", x.member(low, 9) + x.member(high, 9), 0);
    }

    /** 0 owes 10 to 1, bids 6 for the pot of 30, and so gets 24; 1 and 2 have their shares of 3. */
    private static void intoPurses() {
        Check.says(0, "Pence that a member gets from others, as shares, and of the pot (less what it pays to those whom it owes) come into its purse.");
        SavingsCircle x = Check.circle("C10m000m100m100g01b1001");
        x.month();
        x.setGuarantor(0, NONE);
        x.give(0, 10);
        x.bid(0, 6);
        int[] before = {x.member(0, 0), x.member(1, 0), x.member(2, 0)};
        Check.due("0 takes the pot", x.month(), 0);
        Check.due("of the pot, less what it pays", x.member(0, 0), before[0] - 10 + 24 - 10);
        Check.due("a share, and from others", x.member(1, 0), before[1] - 10 + 3 + 10);
        Check.due("a share", x.member(2, 0), before[2] - 10 + 3);
    }

    private static void afterTheMonth() {
        Check.says(0, "All bids become 0, all marks go, and the next month comes.");
        SavingsCircle x = Check.circle("C10m100m100m100m009b0999b1003b2001b3007");
        for (int i = 0; i < 4; i++) {
            x.stayAway(i, i != 0);
        }
        x.leave(2);
        x.month();
        for (int i = 0; i < 4; i++) {
            Check.due("bid of " + i, x.member(i, 2), 0);
            Check.due("mark of " + i, x.member(i, 3), 0);
        }
        Check.due("the month", x.about(2), 1);
        Check.due("guarantors stay", Check.circle("C10m100m100g01").member(0, 1), 1);
    }

    private static void pence() {
        Check.says(0, "All pence that were ever given to members are in purses or in the box.");
        SavingsCircle x = Check.circle("C07m100m005m013m300g10g23b2015b0004");
        for (int k = 0; k < 40; k++) {
            x.month();
            if (k % 9 == 4) {
                x.give(k % 4, 31);
            }
            if (k == 20) {
                x.leave(3);
            }
            Check.due("in purses and in the box", x.about(4) + x.about(5), x.about(8));
        }
    }

    private static void leavingBefore() {
        Check.says(0, "If it has not taken the pot, it gets half of all contributions that it paid from its own purse for itself, rounded down, but no more than there is in the box, from the box.");
        for (int paid = 1; paid <= 50; paid++) {
            for (int box = 0; box <= 25; box++) {
                SavingsCircle x = paidAndBox(paid, box);
                int due = Math.min(paid / 2, box);
                Check.due("paid " + paid + ", box " + box + ": leave", x.leave(1), due);
                Check.due("its purse", x.member(1, 0), 999 - paid + due);
                Check.due("the box", x.about(4), box - due);
                Check.due("it has left", x.member(1, 5), 0);
            }
        }
        SavingsCircle none = paidAndBox(50, 25);
        none.addMember(7);
        Check.due("one that has paid nothing gets nothing", none.leave(3), 0);
    }

    /** 1 waits, and has paid so much for itself; there is so much in the box. */
    private static SavingsCircle paidAndBox(int paid, int box) {
        SavingsCircle x = new SavingsCircle();
        for (int i = 0; i < 3; i++) {
            x.addMember(999);
        }
        x.setContribution(paid);
        x.month();
        x.setContribution(50);
        x.stayAway(0, true);
        x.stayAway(1, true);
        x.bid(2, box);
        x.month();
        Check.due("the box before", x.about(4), box);
        Check.due("paid before", x.member(1, 6), paid);
        return x;
    }

    private static void whatCountsForLeaving() {
        Check.says(0, "all contributions that it paid from its own purse for itself");
        SavingsCircle x = Check.circle("C10m999m999m000g21b0001");
        x.month();
        x.setContribution(50);
        x.setGuarantor(2, NONE);
        x.addMember(999);
        x.bid(3, 999);
        x.stayAway(0, true);
        x.stayAway(1, true);
        x.month();
        Check.due("the box", x.about(4), 26);
        Check.due("1 has paid for itself and for another", 100 * x.member(1, 6) + x.member(1, 7), 1010);
        Check.due("what it paid for another does not count", x.leave(1), 5);
        Check.due("nor for the other one", x.leave(2), 0);
        SavingsCircle sum = Check.circle("C03m999m999m999m999");
        sum.month();
        sum.bid(2, 1);
        sum.month();
        sum.bid(3, 1);
        sum.month();
        sum.setContribution(50);
        sum.stayAway(1, true);
        sum.month();
        Check.due("three times 3", sum.member(1, 6), 9);
        Check.due("half of the sum, not the sum of halves", sum.leave(1), 4);
    }

    /** The one that has taken the pot has just enough for all who wait, or one penny less. */
    private static void leavingAfter() {
        Check.says(0, "If it has taken the pot, it must pay the contribution into the box for each other member in the circle who has not taken it; it cannot leave if its purse does not have so much.");
        for (int others = 1; others <= 7; others++) {
            for (int c = 1; c <= 50; c++) {
                int cost = others * c;
                SavingsCircle x = Check.circle("C01" + "m001".repeat(others + 1));
                x.month();
                x.setContribution(c);
                int lacking = cost - 1 - x.member(0, 0);
                if (lacking >= 0) {
                    if (lacking > 0) {
                        x.give(0, lacking);
                    }
                    Check.refused(x, "leave with one penny less than " + cost, Check.STATE, () -> x.leave(0));
                    x.give(0, 1);
                }
                int purse = x.member(0, 0);
                Check.due("leave for " + cost, x.leave(0), -cost);
                Check.due("its purse", x.member(0, 0), purse - cost);
                Check.due("the box", x.about(4), cost);
            }
        }
    }

    private static void leavingForNobody() {
        Check.says(0, "for each other member in the circle who has not taken it");
        SavingsCircle x = Check.circle("C10m100m100m100m100");
        x.month();
        x.month();
        x.leave(2);
        Check.due("for one that waits; one has taken it, one has left", x.leave(0), -10);
        x.leave(3);
        Check.due("for nobody", x.leave(1), 0);
        SavingsCircle poor = Check.circle("C10m010");
        poor.month();
        poor.month();
        Check.due("an empty purse", poor.member(0, 0), 0);
        Check.due("is enough for nobody", poor.leave(0), 0);
    }

    private static void whatStays() {
        Check.says(0, "What it owes, and what is owed to it, stays; its bid and its mark stay until the month goes by.");
        SavingsCircle x = Check.circle("C10m100m100m100g10b0001");
        x.month();
        x.stayAway(1, true);
        x.bid(2, 3);
        x.month();
        Check.due("1 owes to 0", x.owes(1, 0), 10);
        x.bid(1, 7);
        x.stayAway(1, true);
        x.leave(1);
        Check.due("what it owes", x.owes(1, 0), 10);
        Check.due("its bid", x.member(1, 2), 7);
        Check.due("its mark", x.member(1, 3), 1);
        x.month();
        Check.due("what it owes, after the month", x.owes(1, 0), 10);
        Check.due("its bid, after the month", x.member(1, 2), 0);
        Check.due("its mark, after the month", x.member(1, 3), 0);
        SavingsCircle y = Check.circle("C10m000m100g01b1001");
        y.month();
        y.give(1, 50);
        y.leave(1);
        Check.due("what is owed to it", y.owes(0, 1), 10);
    }
}
