import java.util.Random;

/**
 * Long runs of calls (the seeds are fixed). What is told ahead is compared with what the actions
 * then do, and each month with the document's five parts, worked out here from what can be asked.
 */
final class RandomRunsTest {
    private static final int NONE = Check.NONE;

    public static void main(String[] args) {
        for (int seed = 0; seed < 400; seed++) {
            run(new Random(seed), seed);
        }
        Check.end();
    }

    private static void run(Random random, int seed) {
        SavingsCircle x = new SavingsCircle();
        for (int k = 0; k < 60; k++) {
            String at = "seed " + seed + ", step " + k + ": ";
            act(x, random);
            Check.due(at + "no penny is lost", x.about(4) + x.about(5), x.about(8));
            if (k % 3 == 0) {
                months(x, at);
                leastBids(x, at, random);
                pillar(x, at);
                ends(x, at);
                script(x, at, random);
                simulation(x, at, random);
            }
        }
    }

    /** An action, more often one that is allowed than not; those that are not must change nothing. */
    private static void act(SavingsCircle x, Random random) {
        String before = Check.all(x);
        try {
            tryAction(x, random, random.nextInt(20), random.nextInt(9) - (random.nextInt(20) == 0 ? 9 : 0));
        } catch (IllegalArgumentException | IllegalStateException | IndexOutOfBoundsException e) {
            Check.same("a call that throws must change nothing", Check.all(x), before);
        }
    }

    private static void tryAction(SavingsCircle x, Random random, int kind, int i) {
        int n = x.about(0);
        int j = random.nextInt(9);
        if (n == 0 || kind == 0) {
            x.addMember(random.nextInt(4) == 0 ? random.nextInt(1100) : random.nextInt(60));
        } else if (kind <= 2) {
            x.setContribution(random.nextInt(4) == 0 ? random.nextInt(53) : 1 + random.nextInt(20));
        } else if (kind <= 5) {
            x.setGuarantor(i, random.nextInt(6) == 0 ? NONE : j);
        } else if (kind <= 9) {
            x.bid(i, random.nextInt(3) == 0 ? random.nextInt(1010) : random.nextInt(30));
        } else if (kind <= 11) {
            x.stayAway(i, random.nextInt(3) > 0);
        } else if (kind == 12) {
            x.give(i, random.nextInt(40));
        } else if (kind == 13) {
            x.leave(random.nextInt(4) == 0 ? i : 20);
        } else if (kind == 14) {
            x.repay(i, j);
        } else {
            x.month();
        }
    }

    /** What is told of a month, what month() does, and what the document says, are the same. */
    private static void months(SavingsCircle x, String at) {
        Month due = new Month(x);
        Check.due(at + "winner", x.winner(), due.taker);
        Check.due(at + "pot", x.pot(), due.pot);
        for (int i = 0; i < due.n; i++) {
            Check.due(at + "change", x.change(i), due.purse[i] - x.member(i, 0));
        }
        if (x.about(1) == 0 || x.about(2) == 99) {
            Check.refused(x, at + "month", Check.STATE, () -> x.month());
            return;
        }
        String before = Check.all(x);
        Check.due(at + "month", x.month(), due.taker);
        Check.same(at + "after the month", Check.all(x), due.all(x));
        x.undo();
        Check.same(at + "undo", Check.all(x), before);
    }

    private static void leastBids(SavingsCircle x, String at, Random random) {
        int n = x.about(0);
        if (n == 0) {
            return;
        }
        int i = random.nextInt(n);
        int found = NONE;
        if (x.member(i, 4) == 0 && x.member(i, 5) == 1) {
            for (int b = 0; b <= 999 && found == NONE; b++) {
                x.bid(i, b);
                if (x.winner() == i) {
                    found = b;
                }
                x.undo();
            }
        }
        Check.due(at + "leastBid", x.leastBid(i), found);
    }

    private static void pillar(SavingsCircle x, String at) {
        int found = NONE;
        int least = Integer.MAX_VALUE;
        for (int i = 0; i < x.about(0); i++) {
            if (x.member(i, 5) == 1) {
                x.stayAway(i, true);
                if (x.pot() < least) {
                    least = x.pot();
                    found = i;
                }
                x.undo();
            }
        }
        Check.due(at + "pillar", x.pillar(), found);
    }

    private static void ends(SavingsCircle x, String at) {
        int n = x.about(0);
        int[] when = new int[n];
        int[] purse = new int[n];
        for (int i = 0; i < n; i++) {
            when[i] = x.when(i);
            purse[i] = x.inTheEnd(i);
        }
        int[] taken = new int[n];
        java.util.Arrays.fill(taken, NONE);
        x.save(0);
        for (int k = 0; k < 20 && x.about(1) > 0 && x.about(2) < 99; k++) {
            int present = x.about(2);
            int who = x.month();
            if (who != NONE) {
                taken[who] = present;
            }
        }
        x.restore(0);
        for (int k = 0; k < 20 && x.about(6) > 0 && x.about(2) < 99; k++) {
            x.month();
        }
        for (int i = 0; i < n; i++) {
            Check.due(at + "when", when[i], taken[i]);
            Check.due(at + "inTheEnd", purse[i], x.member(i, 0));
        }
        x.restore(0);
    }

    private static void script(SavingsCircle x, String at, Random random) {
        int n = 1 + random.nextInt(3);
        long script = 0;
        int failed = NONE;
        x.save(0);
        String before = Check.all(x);
        int[] groups = new int[n];
        for (int k = 0; k < n; k++) {
            int zeros = random.nextInt(4);
            groups[k] = random.nextInt(10) * 10000 + random.nextInt(9) * 1000
                + (zeros == 0 ? 0 : zeros == 1 ? random.nextInt(9) * 100 : random.nextInt(zeros == 2 ? 100 : 1000));
            script = script * 100000 + groups[k];
        }
        int got = x.runScript(n, script);
        Check.same(at + "runScript must change nothing", Check.all(x), before);
        for (int k = 0; k < n && failed == NONE; k++) {
            if (!command(x, groups[k])) {
                failed = k;
            }
        }
        x.restore(0);
        Check.due(at + "runScript(" + n + ", " + script + ")", got, failed);
    }

    private static boolean command(SavingsCircle x, int group) {
        int[] d = {group / 10000, group / 1000 % 10, group / 100 % 10, group / 10 % 10, group % 10};
        int number = 100 * d[2] + 10 * d[3] + d[4];
        boolean zeros = d[3] == 0 && d[4] == 0;
        try {
            switch (d[0]) {
                case 1:
                    for (int k = 0; k < d[4]; k++) {
                        x.month();
                    }
                    return d[1] == 0 && d[2] == 0 && d[3] == 0 && d[4] > 0;
                case 2: x.bid(d[1], number); return true;
                case 3: x.setGuarantor(d[1], d[2]); return zeros;
                case 4: x.stayAway(d[1], d[2] == 1); return zeros && d[2] < 2;
                case 5: x.give(d[1], number); return true;
                case 6: x.leave(d[1]); return number == 0;
                case 7: return x.member(d[1], 0) >= number;
                case 8: return x.owes(d[1], d[2]) <= 10 * d[3] + d[4];
                case 9: return x.member(d[1], 4) == 1 && number == 0;
                default: return false;
            }
        } catch (IllegalArgumentException | IllegalStateException | IndexOutOfBoundsException e) {
            return false;
        }
    }

    private static void simulation(SavingsCircle x, String at, Random random) {
        long seed = random.nextLong();
        int months = 1 + random.nextInt(40);
        int n = x.about(0);
        int missed = 0;
        int taken = 0;
        int got = x.simulate(seed, months);
        x.save(0);
        for (int i = 0; i < n; i++) {
            missed -= x.member(i, 10);
        }
        for (int k = 0; k < months; k++) {
            for (int i = 0; i < n; i++) {
                seed = seed * 6364136223846793005L + 1442695040888963407L;
                int r = (int) (seed >>> 33);
                if (x.member(i, 5) == 1) {
                    x.stayAway(i, r % 8 == 0);
                    if (x.member(i, 4) == 0) {
                        x.bid(i, r / 8 % 40);
                    }
                }
            }
            if (x.about(1) > 0 && x.about(2) < 99) {
                x.month();
            }
        }
        for (int i = 0; i < n; i++) {
            missed += x.member(i, 10);
            taken += x.member(i, 4);
        }
        x.restore(0);
        Check.due(at + "simulate", got, 1000 * taken + Math.min(missed, 999));
    }

    /** The document's five parts, worked out from what can be asked of a circle. */
    private static final class Month {
        final int n;
        final int c;
        final int[] purse;
        final int[][] facts;
        final int[][] debts;
        int pot = 0;
        int box;
        int taker = NONE;

        Month(SavingsCircle x) {
            n = x.about(0);
            c = x.about(3);
            box = x.about(4);
            purse = new int[n];
            facts = new int[n][11];
            debts = new int[n][n];
            for (int i = 0; i < n; i++) {
                purse[i] = x.member(i, 0);
                for (int what = 0; what <= 10; what++) {
                    facts[i][what] = x.member(i, what);
                }
                for (int j = 0; j < n; j++) {
                    debts[i][j] = i == j ? 0 : x.owes(i, j);
                }
            }
            work(x.about(2));
        }

        private void work(int month) {
            String paid = "";
            String served = "";
            for (int i = 0; i < n; i++) {
                if (facts[i][5] == 1 && facts[i][3] == 0 && purse[i] >= c) {
                    purse[i] -= c;
                    facts[i][6] += c;
                    pot += c;
                    paid += i;
                }
            }
            served = paid;
            for (int i = 0; i < n; i++) {
                int g = facts[i][1];
                if (facts[i][5] == 1 && !paid.contains("" + i)) {
                    if (g != NONE && paid.contains("" + g) && purse[g] >= c) {
                        purse[g] -= c;
                        facts[g][7] += c;
                        debts[i][g] += c;
                        pot += c;
                        served += i;
                    } else {
                        facts[i][10]++;
                    }
                }
            }
            int half = pot / 2;
            for (int b = half; b >= 0 && taker == NONE; b--) {
                for (int k = month; k < month + n && taker == NONE; k++) {
                    int i = k % n;
                    if (served.contains("" + i) && facts[i][4] == 0 && (facts[i][2] == b || b == half && facts[i][2] > b)) {
                        taker = i;
                        give(b, served.replace("" + i, ""));
                    }
                }
            }
            if (taker == NONE) {
                box += pot;
            }
        }

        private void give(int bid, String others) {
            box += bid;
            for (int j = 0; j < n; j++) {
                if (others.contains("" + j)) {
                    int share = bid / others.length();
                    purse[j] += share;
                    facts[j][9] += share;
                    box -= share;
                }
            }
            facts[taker][8] = pot - bid;
            facts[taker][4] = 1;
            for (int penny = 0; penny < pot - bid; penny++) {
                int to = taker;
                for (int j = n - 1; j >= 0; j--) {
                    to = debts[taker][j] > 0 ? j : to;
                }
                debts[taker][to] -= to == taker ? 0 : 1;
                purse[to]++;
            }
        }

        /** As Check.all tells it after the month. */
        String all(SavingsCircle x) {
            int purses = 0;
            int owed = 0;
            int waiting = 0;
            StringBuilder members = new StringBuilder();
            for (int i = 0; i < n; i++) {
                facts[i][0] = purse[i];
                facts[i][2] = 0;
                facts[i][3] = 0;
                purses += purse[i];
                waiting += facts[i][5] == 1 && facts[i][4] == 0 ? 1 : 0;
                members.append('|');
                for (int fact : facts[i]) {
                    members.append(fact).append(' ');
                }
                for (int j = 0; j < n; j++) {
                    owed += debts[i][j];
                    members.append(i == j ? "- " : debts[i][j] + " ");
                }
            }
            return n + " " + x.about(1) + " " + x.about(2) + " " + c + " " + box + " " + purses + " " + waiting
                + " " + owed + " " + x.about(8) + " " + members + "text " + x.errorPosition();
        }
    }
}
