import java.io.IOException;
import java.util.function.Supplier;

/** The boundary cases of promises 28 to 31, sentence by sentence. */
final class ScriptEdgesTest {
    private static final int NONE = Check.NONE;
    private static final long[] TOP = {0, 99999L, 9999999999L, 999999999999999L};

    public static void main(String[] args) throws IOException {
        Check.readDocument(args);
        numberOfCommands();
        digits();
        leadingZeros();
        firstThatFails();
        everyGroup();
        effects();
        monthsOfScripts();
        giftsOfScripts();
        numbers();
        scriptsChangeNothing();
        numberOfMonths();
        seeds();
        lastMonth();
        misses();
        takenInTheEnd();
        simulationsChangeNothing();
        save();
        slots();
        restore();
        Check.end();
    }

    private static void numberOfCommands() {
        Check.says(28, "`n`: number of commands, 1 to 3");
        Check.says(28, "Throws `IllegalArgumentException` if n is out of range, or if script is negative or has more than 5 * n digits");
        for (Supplier<SavingsCircle> making : Circles.all()) {
            for (int n : new int[] {0, 4, -1, NONE, Integer.MIN_VALUE, Integer.MAX_VALUE}) {
                Check.leavesNoTrace("runScript(" + n + ", 0)", Check.ARGUMENT, making, x -> x.runScript(n, 0));
                Check.leavesNoTrace("runScript(" + n + ", -1)", Check.ARGUMENT, making, x -> x.runScript(n, -1));
            }
            for (int n = 1; n <= 3; n++) {
                int commands = n;
                Check.leavesNoTrace("runScript(" + n + ", 0)", Check.NOTHING, making, x -> x.runScript(commands, 0));
            }
        }
    }

    private static void digits() {
        Check.says(28, "`script`: the commands, a number of at most 5 * n digits (0 or more)");
        for (Supplier<SavingsCircle> making : Circles.all()) {
            for (int n = 1; n <= 3; n++) {
                int commands = n;
                long top = TOP[n];
                Check.due("runScript(" + n + ", " + top + ")", making.get().runScript(n, top), 0);
                Check.due("runScript(" + n + ", 0)", making.get().runScript(n, 0), 0);
                long[] out = {-1, -top, top + 1, 10 * top + 9, Long.MAX_VALUE, Long.MIN_VALUE, NONE};
                for (long script : out) {
                    Check.leavesNoTrace("runScript(" + n + ", " + script + ")", Check.ARGUMENT, making,
                        x -> x.runScript(commands, script));
                }
            }
        }
        Check.due("two commands where one fits", Check.circle("C10m100").runScript(2, 10001_70100L), NONE);
    }

    private static void leadingZeros() {
        Check.says(28, "(with zeros before it, if it has fewer digits)");
        SavingsCircle x = Check.circle("C10m100m100");
        Check.due("one command that works", x.runScript(1, 10001), NONE);
        Check.due("as the second of two", x.runScript(2, 10001), 0);
        Check.due("as the third of three", x.runScript(3, 10001), 0);
        Check.due("two of three", x.runScript(3, 10001_10001L), 0);
        Check.due("four digits", x.runScript(1, 1001), 0);
        Check.due("behind one that works: zeros alone", x.runScript(2, 10001_00000L), 1);
        Check.due("behind one that works: zeros first", x.runScript(2, 10001_00001L), 1);
    }

    private static void firstThatFails() {
        Check.says(28, "Returns the index, from 0, of the first command that fails; NONE if all succeed.");
        SavingsCircle x = Check.circle("C10m100m100");
        for (int mask = 0; mask < 8; mask++) {
            long script = 0;
            int due = NONE;
            for (int k = 0; k < 3; k++) {
                boolean works = (mask >> k & 1) == 1;
                script = script * 100000 + (works ? 70000 : 0);
                due = !works && due == NONE ? k : due;
            }
            Check.due("runScript(3, " + script + ")", x.runScript(3, script), due);
        }
        Check.due("a command sees what those before it did", x.runScript(3, 20005_10001_70105L), NONE);
        Check.due("and no more", x.runScript(3, 20005_10001_70106L), 2);
        Check.due("each script begins with the state of now", x.runScript(1, 70101), 0);
    }

    /** Each of the 100000 groups, in some circles, against the document's list of commands. */
    private static void everyGroup() {
        Check.says(28, "commands with members that do not exist, or are the same, fail, and so does any other group (also one with another digit where a 0 is written)");
        everyGroup(Circles::rich);
        everyGroup(Circles::full);
        everyGroup(Circles::late);
        everyGroup(ScriptEdgesTest::nearTheEnd);
        everyGroup(ScriptEdgesTest::allHaveLeft);
        everyGroup(SavingsCircle::new);
    }

    private static SavingsCircle nearTheEnd() {
        SavingsCircle x = Check.circle("C10m000m999m010g01b1001");
        Check.months(x, 93);
        x.give(0, 37);
        x.give(2, 20);
        x.setContribution(19);
        return x;
    }

    private static SavingsCircle allHaveLeft() {
        SavingsCircle x = Check.circle("C10m100m100m000g21");
        x.month();
        x.leave(0);
        x.leave(1);
        x.leave(2);
        return x;
    }

    private static void everyGroup(Supplier<SavingsCircle> making) {
        SavingsCircle x = making.get();
        Facts facts = new Facts(making.get());
        for (int group = 0; group <= 99999; group++) {
            if (group % 200 == 0) {
                x = making.get();
            }
            Check.due("runScript(1, " + group + ")", x.runScript(1, group), facts.allow(group) ? NONE : 0);
        }
    }

    private static void effects() {
        Check.says(28, "2 i x y z: bid(i, xyz). 3 i g 0 0: setGuarantor(i, g). 4 i s 0 0: stayAway(i, s is 1) (s is 0 or 1). 5 i x y z: give(i, xyz). 6 i 0 0 0: leave(i).");
        SavingsCircle x = Check.circle("C10m100m000m100");
        Check.due("the bid of 1 of the last one", x.runScript(3, 22001_10001_92000L), NONE);
        Check.due("its bid of 0", x.runScript(3, 22000_10001_92000L), 2);
        Check.due("a guarantor: 10 are owed", x.runScript(3, 31000_10001_81010L), NONE);
        Check.due("a guarantor: no less", x.runScript(3, 31000_10001_81009L), 2);
        Check.due("another guarantor: nothing is owed to 0", x.runScript(3, 31200_10001_81000L), NONE);
        Check.due("a mark", x.runScript(3, 40100_10001_92000L), NONE);
        Check.due("a mark that does not stay", x.runScript(3, 40000_10001_92000L), 2);
        Check.due("a gift", x.runScript(2, 51003_71003L), NONE);
        Check.due("no greater one", x.runScript(2, 51003_71004L), 1);
        Check.due("one that left", x.runScript(3, 60000_10001_92000L), NONE);
        x.stayAway(0, true);
        Check.due("a mark taken away", x.runScript(3, 40000_10001_90000L), NONE);
        Check.due("a mark that stays", x.runScript(3, 40100_10001_90000L), 2);
    }

    private static void monthsOfScripts() {
        Check.says(28, "1 0 0 0 n: n months go by (n is 1 to 9).");
        for (int month = 85; month <= 99; month++) {
            SavingsCircle x = Check.circle("C01m000");
            Check.months(x, month);
            for (int n = 0; n <= 9; n++) {
                Check.due("in " + month + ": " + n + " months", x.runScript(1, 10000 + n), n > 0 && month + n <= 99 ? NONE : 0);
            }
        }
    }

    private static void giftsOfScripts() {
        Check.says(28, "The commands 1 to 6 fail if a method with this effect would throw an exception");
        SavingsCircle x = Check.circle("C10m000m100");
        for (int k = 0; k < 8; k++) {
            x.give(0, 999);
        }
        Check.due("given", x.about(8), 8092);
        Check.due("908 more, 9000 in all", x.runScript(1, 50908), NONE);
        Check.due("909 more", x.runScript(1, 50909), 0);
        Check.due("908 in two", x.runScript(2, 50900_51008L), NONE);
        Check.due("909 in two", x.runScript(2, 50900_51009L), 1);
        Check.due("908 in three", x.runScript(3, 50900_51007_51001L), NONE);
        Check.due("909 in three", x.runScript(3, 50900_51007_51002L), 2);
        Check.due("a gift of 0", x.runScript(1, 50000), 0);
        x.month();
        Check.due("a bid of one that has taken the pot", x.runScript(1, 20000), 0);
        Check.due("a bid of one that has not", x.runScript(1, 21000), NONE);
        Check.due("leaving twice", x.runScript(2, 60000_60000L), 1);
        Check.due("a bid of one that leaves", x.runScript(2, 60000_20001L), 1);
        Check.due("all leave, then a month", x.runScript(3, 60000_61000_10001L), 2);
        Check.due("one leaves, then a month", x.runScript(2, 60000_10001L), NONE);
    }

    private static void numbers() {
        Check.says(28, "xy and xyz are decimal numbers.");
        SavingsCircle x = Check.circle("C10m100m999m000g21b0020");
        x.month();
        int purse = x.member(0, 0);
        Check.due("just its purse", x.runScript(1, 70000 + purse), NONE);
        Check.due("one penny more", x.runScript(1, 70001 + purse), 0);
        Check.due("owes just 10", x.runScript(1, 82110), NONE);
        Check.due("owes more than 9", x.runScript(1, 82109), 0);
        Check.due("owes at most 99", x.runScript(1, 82199), NONE);
        Check.due("owes at most 0", x.runScript(1, 82000), NONE);
        Check.due("purse of 999 and more", x.runScript(2, 51500_71999L), NONE);
    }

    private static void scriptsChangeNothing() {
        Check.says(28, "Runs a script on a copy of the state.");
        long[] scripts = {10009_10009_10009L, 20007_30100_40100L, 50009_60000_70001L, 81010_92000_41100L, 0};
        for (Supplier<SavingsCircle> making : Circles.all()) {
            for (long script : scripts) {
                Check.leavesNoTrace("runScript(3, " + script + ")", Check.NOTHING, making, x -> x.runScript(3, script));
            }
        }
    }

    private static void numberOfMonths() {
        Check.says(29, "`m`: number of months, 1 to 40");
        Check.says(29, "Throws `IllegalArgumentException` if m is out of range");
        SavingsCircle x = Check.circle("C10m000");
        Check.due("simulate(0, 1)", x.simulate(0, 1), 1);
        Check.due("simulate(0, 40)", x.simulate(0, 40), 40);
        for (Supplier<SavingsCircle> making : Circles.all()) {
            for (int m : new int[] {0, 41, -1, NONE, Integer.MIN_VALUE, Integer.MAX_VALUE}) {
                Check.leavesNoTrace("simulate(0, " + m + ")", Check.ARGUMENT, making, y -> y.simulate(0, m));
            }
        }
    }

    /** What is simulated is what the actions do, for seeds at the ends of their range and others. */
    private static void seeds() {
        Check.says(29, "`seed`: any long");
        Check.says(29, "In each month, for each member, ascending, x is first replaced by x * 6364136223846793005L + 1442695040888963407L");
        Check.says(29, "and r = (int) (x >>> 33) is computed: if the member is in the circle, it stays away just if r % 8 is 0, and its bid becomes r / 8 % 40, if it has not taken the pot.");
        Check.says(29, "A long x starts as the seed (once).");
        Check.says(29, "(with long overflow)");
        long[] seeds = {0, 1, -1, Long.MAX_VALUE, Long.MIN_VALUE, Integer.MAX_VALUE, Integer.MIN_VALUE, 1L << 33, (1L << 33) - 1};
        for (Supplier<SavingsCircle> making : Circles.all()) {
            for (long seed : seeds) {
                for (int m : new int[] {1, 2, 3, 39, 40}) {
                    Check.due("simulate(" + seed + ", " + m + ")", making.get().simulate(seed, m), Simulation.of(making.get(), seed, m));
                }
            }
        }
    }

    private static void lastMonth() {
        Check.says(29, "Then the month goes by, if somebody is in the circle and the month is not 99.");
        for (int month = 95; month <= 99; month++) {
            SavingsCircle x = Check.circle("C50m000m000m000");
            Check.months(x, month);
            for (int m : new int[] {1, 2, 3, 4, 5, 40}) {
                Check.due("in " + month + ": " + m + " months", x.simulate(9, m), 3 * Math.min(m, 99 - month));
            }
        }
        Check.due("nobody is in the circle", Circles.all().get(0).get().simulate(9, 40), 0);
        SavingsCircle left = Check.circle("C50m000");
        left.month();
        left.leave(0);
        Check.due("all have left", left.simulate(9, 40), 0);
    }

    /** 8 members in 40 months miss at most 320 months, so that 999 is never reached. */
    private static void misses() {
        Check.says(29, "how often members missed a month in them, or 999 if more often");
        SavingsCircle x = Check.circle("C50" + "m049".repeat(8));
        Check.due("all miss all months", x.simulate(5, 40), 320);
        Check.months(x, 40);
        Check.due("those before do not count", x.simulate(5, 40), 320);
        Check.due("one month", x.simulate(5, 1), 8);
        x.leave(7);
        Check.due("one that has left does not miss", x.simulate(5, 40), 280);
    }

    private static void takenInTheEnd() {
        Check.says(29, "Returns 1000 * (the members who have taken the pot at the end)");
        SavingsCircle x = Check.circle("C01" + "m999".repeat(8));
        Check.due("all of 8", x.simulate(5, 40) / 1000, 8);
        Check.due("one in a month", x.simulate(5, 1) / 1000, 1);
        x.month();
        x.leave(0);
        Check.due("with the one that took it before, and left", x.simulate(5, 40) / 1000, 8);
        SavingsCircle none = Check.circle("C50m049");
        Check.due("none", none.simulate(5, 1) / 1000, 0);
    }

    private static void simulationsChangeNothing() {
        Check.says(29, "Simulates m months on a copy of the state.");
        for (Supplier<SavingsCircle> making : Circles.all()) {
            Check.leavesNoTrace("simulate(3, 1)", Check.NOTHING, making, x -> x.simulate(3, 1));
            Check.leavesNoTrace("simulate(3, 40)", Check.NOTHING, making, x -> x.simulate(3, 40));
        }
    }

    private static void save() {
        Check.says(30, "Throws `IndexOutOfBoundsException` if there is no such save slot");
        Check.says(30, "Returns the month.");
        for (Supplier<SavingsCircle> making : Circles.all()) {
            for (int slot : new int[] {-1, 2, NONE, Integer.MIN_VALUE, Integer.MAX_VALUE}) {
                Check.leavesNoTrace("save(" + slot + ")", Check.NO_SUCH, making, x -> x.save(slot));
                Check.leavesNoTrace("restore(" + slot + ")", Check.NO_SUCH, making, x -> x.restore(slot));
            }
            String before = Check.all(making.get());
            int remembered = Check.countRemembered(making.get());
            SavingsCircle x = making.get();
            Check.due("save(0)", x.save(0), x.about(2));
            Check.due("save(1)", x.save(1), x.about(2));
            Check.same("the state stays", Check.all(x), before);
            Check.due("save is not an action", Check.countRemembered(x), remembered);
            SavingsCircle y = making.get();
            y.save(1);
            Check.countRemembered(y);
            y.restore(1);
            Check.same("the state that was saved", Check.all(y), before);
        }
    }

    private static void slots() {
        Check.says(0, "that a save slot is not 0 or 1.");
        SavingsCircle x = Check.circle("C10m100");
        x.save(0);
        Check.refused(x, "restore(1)", Check.STATE, () -> x.restore(1));
        x.month();
        x.save(1);
        x.month();
        Check.due("the first slot", x.restore(0), 0);
        Check.due("the second slot", x.restore(1), 1);
        Check.due("the first slot again", x.restore(0), 0);
        Check.due("saved over", x.save(1), 0);
        x.month();
        Check.due("the second slot then", x.restore(1), 0);
    }

    private static void restore() {
        Check.says(31, "Replaces the state by the one in a save slot, and forgets all remembered states. The save slot keeps it.");
        Check.says(31, "Throws `IndexOutOfBoundsException` if there is no such save slot");
        Check.says(31, "Throws `IllegalStateException` if nothing has been saved in it since the last load");
        SavingsCircle x = Circles.rich();
        Check.refused(x, "restore(1)", Check.STATE, () -> x.restore(1));
        String before = Check.all(x);
        x.save(1);
        x.addMember(3);
        x.month();
        x.leave(2);
        x.repay(1, 0);
        Check.due("restore(1)", x.restore(1), 1);
        Check.same("the state", Check.all(x), before);
        Check.refused(x, "undo", Check.STATE, () -> x.undo());
        x.setContribution(2);
        x.restore(1);
        Check.same("the state again", Check.all(x), before);
        Check.refused(x, "undo", Check.STATE, () -> x.undo());
        x.load();
        Check.refused(x, "restore(0) since load", Check.STATE, () -> x.restore(0));
        Check.refused(x, "restore(1) since load", Check.STATE, () -> x.restore(1));
        x.save(0);
        Check.due("restore(0) of what was saved since load", x.restore(0), 0);
        Check.refused(x, "restore(1) still", Check.STATE, () -> x.restore(1));
        x.append('x');
        Check.refused(x, "load of no circle", Check.STATE, () -> x.load());
        Check.due("a load that throws empties no slot", x.restore(0), 0);
    }

    /** What the commands depend on, asked once. */
    private static final class Facts {
        final int n;
        final int left;
        final int month;
        final int given;
        final int contribution;
        final int waiting;
        final int[][] members;
        final int[][] debts;

        Facts(SavingsCircle x) {
            n = x.about(0);
            left = n - x.about(1);
            month = x.about(2);
            contribution = x.about(3);
            waiting = x.about(6);
            given = x.about(8);
            members = new int[n][11];
            debts = new int[n][n];
            for (int i = 0; i < n; i++) {
                for (int what = 0; what <= 10; what++) {
                    members[i][what] = x.member(i, what);
                }
                for (int j = 0; j < n; j++) {
                    debts[i][j] = i == j ? 0 : x.owes(i, j);
                }
            }
        }

        boolean allow(int group) {
            String d = String.format("%05d", group);
            int i = d.charAt(1) - '0';
            int j = d.charAt(2) - '0';
            int xyz = Integer.parseInt(d.substring(2));
            if (d.startsWith("1")) {
                int months = d.charAt(4) - '0';
                return d.startsWith("1000") && months >= 1 && month + months <= 99 && left < n;
            }
            if (i >= n || !d.matches("2....|3..00|4.[01]00|5....|6.000|7....|8....|9.000")) {
                return false;
            }
            boolean inside = members[i][5] == 1;
            boolean taken = members[i][4] == 1;
            boolean two = j < n && i != j;
            switch (d.charAt(0)) {
                case '2': return inside && !taken;
                case '3': return two;
                case '4': return true;
                case '5': return xyz >= 1 && given + xyz <= 9000;
                case '6': return inside && (!taken || members[i][0] >= contribution * waiting);
                case '7': return members[i][0] >= xyz;
                case '8': return two && debts[i][j] <= xyz % 100;
                default: return taken;
            }
        }
    }
}
