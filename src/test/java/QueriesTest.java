import java.io.IOException;

/** Promises 6 to 10: about, member, owes, chain, rate. */
final class QueriesTest {
    private static final String THREE = "C10m100m005m300g10b2015";

    public static void main(String[] args) throws IOException {
        Check.readDocument(args);
        about();
        member();
        owes();
        chain();
        rate();
        Check.end();
    }

    private static void aboutIs(String when, SavingsCircle x, int... due) {
        for (int what = 0; what < due.length; what++) {
            Check.due(when + ": about(" + what + ")", x.about(what), due[what]);
        }
    }

    private static void memberIs(String when, SavingsCircle x, int i, int... due) {
        for (int what = 0; what < due.length; what++) {
            Check.due(when + ": member(" + i + ", " + what + ")", x.member(i, what), due[what]);
        }
    }

    private static void about() {
        Check.says(6, "Returns a number.");
        Check.says(6, "`what`: 0: the number of members;");
        Check.says(6, "Returns that number.");
        SavingsCircle x = Check.circle(THREE);
        aboutIs("at first", x, 3, 3, 0, 10, 0, 405, 3, 0, 405);
        x.month();
        aboutIs("after a month", x, 3, 3, 1, 10, 1, 404, 2, 10, 405);
        x.month();
        aboutIs("after two months", x, 3, 3, 2, 10, 1, 404, 1, 0, 405);
        x.give(0, 5);
        x.addMember(9);
        aboutIs("after gifts", x, 4, 4, 2, 10, 1, 418, 2, 0, 419);
        x.leave(2);
        aboutIs("after one left", x, 4, 3, 2, 10, 21, 398, 2, 0, 419);
        x.leave(3);
        aboutIs("after two left", x, 4, 2, 2, 10, 21, 398, 1, 0, 419);
        Check.refused(x, "about(-1)", Check.ARGUMENT, () -> x.about(-1));
        Check.refused(x, "about(9)", Check.ARGUMENT, () -> x.about(9));
        Check.refused(x, "about(NONE)", Check.ARGUMENT, () -> x.about(Check.NONE));
    }

    private static void member() {
        Check.says(7, "Returns a number of a member.");
        Check.says(7, "`i`: member");
        Check.says(7, "`what`: 0: its purse;");
        Check.says(7, "Returns that number.");
        SavingsCircle x = Check.circle(THREE);
        memberIs("at first", x, 0, 100, Check.NONE, 0, 0, 0, 1, 0, 0, 0, 0, 0);
        memberIs("at first", x, 1, 5, 0, 0, 0, 0, 1, 0, 0, 0, 0, 0);
        memberIs("at first", x, 2, 300, Check.NONE, 15, 0, 0, 1, 0, 0, 0, 0, 0);
        x.month();
        memberIs("after a month", x, 0, 87, Check.NONE, 0, 0, 0, 1, 10, 10, 0, 7, 0);
        memberIs("after a month", x, 1, 12, 0, 0, 0, 0, 1, 0, 0, 0, 7, 0);
        memberIs("after a month", x, 2, 305, Check.NONE, 0, 0, 1, 1, 10, 0, 15, 0, 0);
        x.month();
        memberIs("after two months", x, 0, 87, Check.NONE, 0, 0, 0, 1, 20, 10, 0, 7, 0);
        memberIs("after two months", x, 1, 22, 0, 0, 0, 1, 1, 10, 0, 30, 7, 0);
        x.stayAway(2, true);
        x.leave(2);
        memberIs("marked and left", x, 2, 285, Check.NONE, 0, 1, 1, 0, 20, 0, 15, 0, 0);
        x.stayAway(0, true);
        x.month();
        memberIs("after it stayed away", x, 0, 87, Check.NONE, 0, 0, 0, 1, 20, 10, 0, 7, 1);
        memberIs("a member that left does not miss", x, 2, 285, Check.NONE, 0, 0, 1, 0, 20, 0, 15, 0, 0);
        Check.refused(x, "member(3, 0)", Check.NO_SUCH, () -> x.member(3, 0));
        Check.refused(x, "member(-1, 0)", Check.NO_SUCH, () -> x.member(-1, 0));
        Check.refused(x, "member(0, -1)", Check.ARGUMENT, () -> x.member(0, -1));
        Check.refused(x, "member(0, 11)", Check.ARGUMENT, () -> x.member(0, 11));
        Check.refused(x, "member(3, 11)", Check.NO_SUCH, () -> x.member(3, 11));
    }

    private static void owes() {
        Check.says(8, "Returns a debt.");
        Check.says(8, "`i`: member who owes");
        Check.says(8, "`j`: another member");
        Check.says(8, "Returns the pence that i owes to j.");
        SavingsCircle x = Check.circle(THREE);
        x.month();
        Check.due("owes(1, 0)", x.owes(1, 0), 10);
        Check.due("owes(0, 1)", x.owes(0, 1), 0);
        Check.due("owes(1, 2)", x.owes(1, 2), 0);
        Check.refused(x, "owes(3, 0)", Check.NO_SUCH, () -> x.owes(3, 0));
        Check.refused(x, "owes(0, 3)", Check.NO_SUCH, () -> x.owes(0, 3));
        Check.refused(x, "owes(0, -1)", Check.NO_SUCH, () -> x.owes(0, -1));
        Check.refused(x, "owes(0, NONE)", Check.NO_SUCH, () -> x.owes(0, Check.NONE));
        Check.refused(x, "owes(3, 3)", Check.NO_SUCH, () -> x.owes(3, 3));
        Check.refused(x, "owes(2, 2)", Check.ARGUMENT, () -> x.owes(2, 2));
    }

    private static void chain() {
        Check.says(9, "Tells how far a chain of guarantors goes.");
        Check.says(9, "`i`: member");
        Check.says(9, "Returns the number of different members in the chain of this one, its guarantor, the guarantor of that one, and so on,");
        SavingsCircle x = Check.circle("C10m000m000m000m000m000g01g12g21g34");
        int[] due = {3, 2, 2, 2, 1};
        for (int i = 0; i < due.length; i++) {
            Check.due("chain(" + i + ")", x.chain(i), due[i]);
        }
        SavingsCircle ring = Check.circle("C10m000m000m000m000m000m000m000m000g01g12g23g34g45g56g67g70");
        for (int i = 0; i < 8; i++) {
            Check.due("chain(" + i + ") of a ring of 8", ring.chain(i), 8);
        }
        ring.setGuarantor(7, Check.NONE);
        Check.due("chain(0) of a row of 8", ring.chain(0), 8);
        Check.due("chain(7) of a row of 8", ring.chain(7), 1);
        ring.leave(3);
        Check.due("chain goes on behind one that left", ring.chain(0), 8);
        Check.refused(x, "chain(5)", Check.NO_SUCH, () -> x.chain(5));
        Check.refused(x, "chain(-1)", Check.NO_SUCH, () -> x.chain(-1));
    }

    private static void rate() {
        Check.says(10, "Returns a rate.");
        Check.says(10, "`i`: member");
        Check.says(10, "Returns the bits of a float:");
        SavingsCircle x = Check.circle(THREE);
        Check.due("rate before anything", x.rate(0), 0);
        x.month();
        Check.due("rate(0)", x.rate(0), Float.floatToIntBits(7f / 20f));
        Check.due("rate(1), who paid nothing and got 7", x.rate(1), 0);
        Check.due("rate(2)", x.rate(2), Float.floatToIntBits(15f / 10f));
        x.month();
        Check.due("rate(1)", x.rate(1), Float.floatToIntBits(37f / 10f));
        SavingsCircle zero = Check.circle("C10m010m100b1009");
        zero.month();
        Check.due("rate(1) of 11 to 10", zero.rate(1), Float.floatToIntBits(11f / 10f));
        SavingsCircle none = Check.circle("C10m010m100");
        none.month();
        Check.due("rate(1) of 0 to 10", none.rate(1), 0);
        Check.due("rate(0) of 20 to 10", none.rate(0), 0x40000000);
        Check.refused(x, "rate(3)", Check.NO_SUCH, () -> x.rate(3));
        Check.refused(x, "rate(-1)", Check.NO_SUCH, () -> x.rate(-1));
        longRates();
    }

    /** Many quotients, small and great, rounded up and down. */
    private static void longRates() {
        for (int c = 1; c <= 50; c++) {
            for (int months : new int[] {0, 1, 2, 3, 4, 5, 6, 7, 8, 9, 10, 12, 20, 35, 60}) {
                SavingsCircle x = ringAfter(c, months);
                for (int i = 0; i < 8; i++) {
                    float got = (float) (x.member(i, 8) + x.member(i, 9));
                    float paid = (float) (x.member(i, 6) + x.member(i, 7));
                    Check.due("rate", x.rate(i), paid == 0f ? 0 : Float.floatToIntBits(got / paid));
                }
            }
        }
    }

    /** 8 members, poor and rich, each of them the guarantor of the next one; in the first months they bid. */
    private static SavingsCircle ringAfter(int contribution, int months) {
        SavingsCircle x = new SavingsCircle();
        x.setContribution(contribution);
        boolean[] taken = new boolean[8];
        for (int i = 0; i < 8; i++) {
            x.addMember(40 * i + 3);
            x.setGuarantor(i, i > 0 ? i - 1 : Check.NONE);
        }
        x.setGuarantor(0, 7);
        for (int k = 0; k < months; k++) {
            for (int i = 0; i < 8 && k < 10; i++) {
                if (!taken[i]) {
                    x.bid(i, (7 * k + 13 * i) % 90);
                }
            }
            int winner = x.month();
            if (winner != SavingsCircle.NONE) {
                taken[winner] = true;
            }
        }
        return x;
    }
}
