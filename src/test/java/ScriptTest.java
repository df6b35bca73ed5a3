import java.io.IOException;

/** Promises 28 and 29: runScript, simulate. */
final class ScriptTest {
    private static final int NONE = Check.NONE;

    public static void main(String[] args) throws IOException {
        Check.readDocument(args);
        ranges();
        months();
        bids();
        guarantors();
        marks();
        gifts();
        leaving();
        questions();
        rows();
        simulateRanges();
        simulateWorked();
        Check.end();
    }

    /** A circle in month 1: 2 has taken the pot, 1 owes 10 to 0; purses 87, 12, 305. */
    private static SavingsCircle three() {
        SavingsCircle x = Check.circle("C10m100m005m300g10b2015");
        x.month();
        return x;
    }

    private static void one(SavingsCircle x, int group, boolean works) {
        String before = Check.numbers(x);
        Check.due("runScript(1, " + group + ")", x.runScript(1, group), works ? NONE : 0);
        Check.same("runScript(1, " + group + ") must change nothing", Check.numbers(x), before);
    }

    private static void ranges() {
        SavingsCircle x = three();
        Check.refused(x, "runScript(0, 0)", Check.ARGUMENT, () -> x.runScript(0, 0));
        Check.refused(x, "runScript(4, 0)", Check.ARGUMENT, () -> x.runScript(4, 0));
        Check.refused(x, "runScript(-1, 10001)", Check.ARGUMENT, () -> x.runScript(-1, 10001));
        Check.refused(x, "runScript(1, -1)", Check.ARGUMENT, () -> x.runScript(1, -1));
        Check.refused(x, "runScript(3, least)", Check.ARGUMENT, () -> x.runScript(3, Long.MIN_VALUE));
        Check.refused(x, "runScript(1, 100000)", Check.ARGUMENT, () -> x.runScript(1, 100000));
        Check.refused(x, "runScript(2, 11 digits)", Check.ARGUMENT, () -> x.runScript(2, 10000000000L));
        Check.refused(x, "runScript(3, 16 digits)", Check.ARGUMENT, () -> x.runScript(3, 1000000000000000L));
        Check.refused(x, "runScript(3, greatest)", Check.ARGUMENT, () -> x.runScript(3, Long.MAX_VALUE));
        Check.due("runScript(1, 99999)", x.runScript(1, 99999), 0);
        Check.due("runScript(2, 9999999999)", x.runScript(2, 9999999999L), 0);
        Check.due("runScript(3, 999999999999999)", x.runScript(3, 999999999999999L), 0);
        one(x, 0, false);
        one(x, 9999, false);
    }

    private static void months() {
        SavingsCircle x = three();
        one(x, 10000, false);
        one(x, 10001, true);
        one(x, 10009, true);
        one(x, 10010, false);
        one(x, 10101, false);
        one(x, 11001, false);
        SavingsCircle late = Check.circle("C01m500");
        for (int k = 0; k < 95; k++) {
            late.month();
        }
        one(late, 10004, true);
        one(late, 10005, false);
        SavingsCircle nobody = Check.circle("C01m500");
        nobody.leave(0);
        one(nobody, 10001, false);
        one(Check.circle("C01"), 10001, false);
    }

    private static void bids() {
        SavingsCircle x = three();
        one(x, 20000, true);
        one(x, 20999, true);
        one(x, 22000, false);
        one(x, 23000, false);
        one(x, 29000, false);
        x.leave(0);
        one(x, 20001, false);
        SavingsCircle y = Check.circle("C10m100m100");
        Check.due("a bid of the script counts", y.runScript(3, 210031000191000L), NONE);
        Check.due("and so does a lower one", y.runScript(3, 210001000191000L), 2);
    }

    private static void guarantors() {
        SavingsCircle x = three();
        one(x, 30100, true);
        one(x, 30200, true);
        one(x, 30000, false);
        one(x, 30300, false);
        one(x, 33000, false);
        one(x, 30110, false);
        one(x, 30101, false);
        SavingsCircle y = Check.circle("C10m100m000");
        Check.due("a guarantor of the script pays", y.runScript(3, 310001000280110L), NONE);
        Check.due("one that takes the pot is free of its debt", y.runScript(3, 310001000280109L), NONE);
        Check.due("one month: 10 are owed", y.runScript(3, 310001000181010L), NONE);
        Check.due("one month: more than 9", y.runScript(3, 310001000181009L), 2);
    }

    private static void marks() {
        SavingsCircle x = three();
        one(x, 40000, true);
        one(x, 40100, true);
        one(x, 40200, false);
        one(x, 40110, false);
        one(x, 40101, false);
        one(x, 43000, false);
        SavingsCircle y = Check.circle("C10m100m100");
        Check.due("a mark of the script", y.runScript(3, 401001000191000L), NONE);
        y.stayAway(0, true);
        Check.due("a mark taken away", y.runScript(3, 400001000190000L), NONE);
    }

    private static void gifts() {
        SavingsCircle x = three();
        one(x, 50000, false);
        one(x, 50001, true);
        one(x, 52999, true);
        one(x, 53001, false);
        Check.due("a gift of the script", x.runScript(2, 5000170088L), NONE);
        Check.due("and no more", x.runScript(2, 5000170089L), 1);
        for (int k = 0; k < 8; k++) {
            x.give(0, 999);
        }
        Check.due("given so far", x.about(8), 8397);
        one(x, 50603, true);
        one(x, 50604, false);
        Check.due("two gifts are too many", x.runScript(2, 5060350001L), 1);
    }

    private static void leaving() {
        SavingsCircle x = three();
        one(x, 60000, true);
        one(x, 62000, true);
        one(x, 63000, false);
        one(x, 60001, false);
        one(x, 60010, false);
        one(x, 60100, false);
        Check.due("nobody leaves twice", x.runScript(2, 6000060000L), 1);
        Check.due("what it pays", x.runScript(2, 6200072285L), NONE);
        Check.due("no less", x.runScript(2, 6200072286L), 1);
        SavingsCircle poor = Check.circle("C10m010m100m100b0015");
        poor.month();
        one(poor, 60000, false);
        x.leave(1);
        one(x, 61000, false);
    }

    private static void questions() {
        Check.says(28, "7 i x y z: succeeds if the purse of i has at least xyz pence. 8 i j x y: succeeds if i owes at most xy pence to j. 9 i 0 0 0: succeeds if i has taken the pot.");
        SavingsCircle x = three();
        one(x, 70000, true);
        one(x, 70087, true);
        one(x, 70088, false);
        one(x, 72305, true);
        one(x, 72306, false);
        one(x, 73000, false);
        one(x, 81010, true);
        one(x, 81099, true);
        one(x, 81009, false);
        one(x, 80100, true);
        one(x, 80000, false);
        one(x, 80300, false);
        one(x, 83000, false);
        one(x, 92000, true);
        one(x, 90000, false);
        one(x, 93000, false);
        one(x, 92001, false);
        one(x, 92010, false);
        one(x, 92100, false);
    }

    private static void rows() {
        Check.says(28, "A script has 1 to 3 commands; each is a group of five decimal digits d1 to d5, and the first command is the highest group of the number");
        SavingsCircle x = three();
        Check.due("the first command is the highest group", x.runScript(2, 1000191000L), NONE);
        Check.due("turned round", x.runScript(2, 9100010001L), 0);
        Check.due("zeros before", x.runScript(2, 10001L), 0);
        Check.due("the second fails", x.runScript(3, 100010000010001L), 1);
        Check.due("the third fails", x.runScript(3, 100011000100000L), 2);
        Check.due("all of three", x.runScript(3, 100011000190000L), NONE);
        Check.due("0", x.runScript(3, 0), 0);
    }

    private static void simulateRanges() {
        SavingsCircle x = three();
        Check.refused(x, "simulate(1, 0)", Check.ARGUMENT, () -> x.simulate(1, 0));
        Check.refused(x, "simulate(1, 41)", Check.ARGUMENT, () -> x.simulate(1, 41));
        Check.refused(x, "simulate(1, -1)", Check.ARGUMENT, () -> x.simulate(1, -1));
        String before = Check.all(x);
        x.simulate(Long.MAX_VALUE, 40);
        x.simulate(Long.MIN_VALUE, 1);
        Check.same("simulate must change nothing", Check.all(x), before);
        Check.due("simulate of an empty circle", Check.circle("C10").simulate(7, 40), 0);
    }

    private static void simulateWorked() {
        SavingsCircle poor = Check.circle("C10m000m000");
        Check.due("two that miss each of 40 months", poor.simulate(3, 40), 80);
        poor.month();
        Check.due("earlier misses do not count", poor.simulate(3, 1), 2);
        SavingsCircle late = Check.circle("C10m000");
        for (int k = 0; k < 97; k++) {
            late.month();
        }
        Check.due("no month goes by in 99", late.simulate(5, 40), 2);
        SavingsCircle gone = Check.circle("C10m100m100");
        gone.month();
        gone.leave(0);
        gone.leave(1);
        Check.due("one that left has taken the pot all the same", gone.simulate(5, 40), 1000);
    }
}
