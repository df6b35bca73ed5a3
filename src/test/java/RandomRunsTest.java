import java.io.IOException;
import java.util.Arrays;
import java.util.Random;

/**
 * Long runs of actions (the seeds are fixed). What is told ahead is compared with what the actions
 * then do, and each month with the document's five parts, worked out here from what can be asked.
 * An object is used for at most 512 calls, so each question is put to an object of its own, which
 * has come to the same place by the same actions.
 */
final class RandomRunsTest {
    private static final int NONE = Check.NONE;
    private static final int RUNS = 400;
    private static final int STEPS = 60;

    public static void main(String[] args) throws IOException {
        Check.readDocument(args);
        Check.says(0, "A savings circle: members pay in each month, and one of them takes the pot, who bids most for it, or whose turn it is; what is bid is shared by the others, guarantors pay for those who do not, debts are paid back from the pot, members leave early.");
        Check.says(0, "It tells who wins, which bid would do, when each one takes the pot, how all of it ends, and keeps account of each penny. Changes can be undone.");
        for (int seed = 0; seed < RUNS; seed++) {
            for (int steps = 1; steps <= STEPS; steps++) {
                String at = "seed " + seed + ", step " + steps + ": ";
                action(seed, steps, at);
                if (steps % 3 == 1) {
                    Place place = new Place(seed, steps);
                    months(place, at);
                    leastBids(place, at);
                    pillar(place, at);
                    ends(place, at);
                    script(place, at);
                    simulation(place, at);
                }
            }
        }
        Check.end();
    }

    /** Where a run is after some steps. */
    private static final class Place {
        final int seed;
        final int steps;
        /** For the questions that are put there. */
        final Random random;

        Place(int seed, int steps) {
            this.seed = seed;
            this.steps = steps;
            random = new Random(1000L * seed + steps);
        }

        /** At most two calls a step. */
        SavingsCircle circle() {
            SavingsCircle x = new SavingsCircle();
            Random actions = new Random(seed);
            for (int k = 0; k < steps; k++) {
                act(x, actions);
            }
            return x;
        }
    }

    private static void action(int seed, int steps, String at) {
        SavingsCircle x = new SavingsCircle();
        Random actions = new Random(seed);
        for (int k = 1; k < steps; k++) {
            act(x, actions);
        }
        String before = Check.all(x);
        boolean done = act(x, actions);
        if (!done) {
            Check.same(at + "a call that throws must change nothing", Check.all(x), before);
        }
        Check.due(at + "no penny is lost", x.about(4) + x.about(5), x.about(8));
    }

    /** An action, more often one that is allowed than not; tells whether it was. */
    private static boolean act(SavingsCircle x, Random random) {
        try {
            tryAction(x, random, random.nextInt(20), random.nextInt(9) - (random.nextInt(20) == 0 ? 9 : 0));
            return true;
        } catch (IllegalArgumentException | IllegalStateException | IndexOutOfBoundsException e) {
            return false;
        }
    }

    private static void tryAction(SavingsCircle x, Random random, int kind, int i) {
        int n = x.about(0);
        int j = random.nextInt(9);
        if (n == 0 || kind == 0) {
            x.addMember(random.nextInt(4) == 0 ? random.nextInt(1100) : random.nextInt(60));
        } else if (kind <= 2) {
            x.setContribution(random.nextInt(4) == 0 ? random.nextInt(53) : 1 + random.nextInt(20));
        } else if (kind <= 5) {
            x.setGuarantor(i, random.nextInt(6) == 0 ? NONE : j);
        } else if (kind <= 9) {
            x.bid(i, random.nextInt(3) == 0 ? random.nextInt(1010) : random.nextInt(30));
        } else if (kind <= 11) {
            x.stayAway(i, random.nextInt(3) > 0);
        } else if (kind == 12) {
            x.give(i, random.nextInt(40));
        } else if (kind == 13) {
            x.leave(random.nextInt(4) == 0 ? i : 20);
        } else if (kind == 14) {
            x.repay(i, j);
        } else {
            x.month();
        }
    }

    /** What is told of a month, what month() does, and what the document says, are the same. */
    private static void months(Place place, String at) {
        SavingsCircle x = place.circle();
        Month due = new Month(x);
        Check.due(at + "winner", x.winner(), due.taker);
        Check.due(at + "pot", x.pot(), due.pot);
        for (int i = 0; i < due.n; i++) {
            Check.due(at + "change", x.change(i), due.purse[i] - due.facts[i][0]);
        }
        if (x.about(1) == 0 || x.about(2) == 99) {
            Check.refused(x, at + "month", Check.STATE, () -> x.month());
            return;
        }
        SavingsCircle y = place.circle();
        Check.due(at + "month", y.month(), due.taker);
        Check.same(at + "after the month", Check.all(y), due.all(y));
        SavingsCircle z = place.circle();
        z.month();
        z.undo();
        Check.same(at + "undo", Check.all(z), Check.all(place.circle()));
    }

    /** No bid above half of the pot counts for more than that half; so one more than that is enough to try. */
    private static void leastBids(Place place, String at) {
        SavingsCircle asked = place.circle();
        int n = asked.about(0);
        if (n == 0) {
            return;
        }
        int i = place.random.nextInt(n);
        boolean may = asked.member(i, 4) == 0 && asked.member(i, 5) == 1;
        int top = asked.pot() / 2 + 1;
        int found = NONE;
        SavingsCircle x = place.circle();
        for (int b = 0; may && b <= top && found == NONE; b++) {
            if (b % 100 == 99) {
                x = place.circle();
            }
            x.bid(i, b);
            found = x.winner() == i ? b : NONE;
        }
        Check.due(at + "leastBid", asked.leastBid(i), found);
    }

    private static void pillar(Place place, String at) {
        SavingsCircle x = place.circle();
        int found = NONE;
        int least = Integer.MAX_VALUE;
        int n = x.about(0);
        for (int i = 0; i < n; i++) {
            if (x.member(i, 5) == 1) {
                x.stayAway(i, true);
                int pot = x.pot();
                if (pot < least) {
                    least = pot;
                    found = i;
                }
                x.undo();
            }
        }
        Check.due(at + "pillar", x.pillar(), found);
    }

    private static void ends(Place place, String at) {
        SavingsCircle asked = place.circle();
        int n = asked.about(0);
        int[] taken = new int[n];
        Arrays.fill(taken, NONE);
        SavingsCircle x = place.circle();
        int month = x.about(2);
        int months = x.about(1) > 0 ? Math.min(20, 99 - month) : 0;
        for (int k = 0; k < months; k++) {
            int who = x.month();
            if (who != NONE) {
                taken[who] = month + k;
            }
        }
        SavingsCircle y = place.circle();
        for (int k = 0; k < months && y.about(6) > 0; k++) {
            y.month();
        }
        for (int i = 0; i < n; i++) {
            Check.due(at + "when", asked.when(i), taken[i]);
            Check.due(at + "inTheEnd", asked.inTheEnd(i), y.member(i, 0));
        }
    }

    private static void script(Place place, String at) {
        Random random = place.random;
        int n = 1 + random.nextInt(3);
        long script = 0;
        int failed = NONE;
        int[] groups = new int[n];
        for (int k = 0; k < n; k++) {
            int zeros = random.nextInt(4);
            groups[k] = random.nextInt(10) * 10000 + random.nextInt(9) * 1000
                + (zeros == 0 ? 0 : zeros == 1 ? random.nextInt(9) * 100 : random.nextInt(zeros == 2 ? 100 : 1000));
            script = script * 100000 + groups[k];
        }
        SavingsCircle x = place.circle();
        String before = Check.all(x);
        int got = x.runScript(n, script);
        Check.same(at + "runScript must change nothing", Check.all(x), before);
        SavingsCircle y = place.circle();
        for (int k = 0; k < n && failed == NONE; k++) {
            if (!command(y, groups[k])) {
                failed = k;
            }
        }
        Check.due(at + "runScript(" + n + ", " + script + ")", got, failed);
    }

    private static boolean command(SavingsCircle x, int group) {
        int[] d = {group / 10000, group / 1000 % 10, group / 100 % 10, group / 10 % 10, group % 10};
        int number = 100 * d[2] + 10 * d[3] + d[4];
        boolean zeros = d[3] == 0 && d[4] == 0;
        try {
            switch (d[0]) {
                case 1:
                    for (int k = 0; k < d[4]; k++) {
                        x.month();
                    }
                    return d[1] == 0 && d[2] == 0 && d[3] == 0 && d[4] > 0;
                case 2: x.bid(d[1], number); return true;
                case 3: x.setGuarantor(d[1], d[2]); return zeros;
                case 4: x.stayAway(d[1], d[2] == 1); return zeros && d[2] < 2;
                case 5: x.give(d[1], number); return true;
                case 6: x.leave(d[1]); return number == 0;
                case 7: return x.member(d[1], 0) >= number;
                case 8: return x.owes(d[1], d[2]) <= 10 * d[3] + d[4];
                case 9: return x.member(d[1], 4) == 1 && number == 0;
                default: return false;
            }
        } catch (IllegalArgumentException | IllegalStateException | IndexOutOfBoundsException e) {
            return false;
        }
    }

    private static void simulation(Place place, String at) {
        long seed = place.random.nextLong();
        int months = 1 + place.random.nextInt(25);
        Check.due(at + "simulate", place.circle().simulate(seed, months), Simulation.of(place.circle(), seed, months));
    }

    /** The document's five parts, worked out from what can be asked of a circle. */
    private static final class Month {
        final int n;
        final int c;
        final int[] purse;
        final int[][] facts;
        final int[][] debts;
        int pot = 0;
        int box;
        int taker = NONE;

        Month(SavingsCircle x) {
            n = x.about(0);
            c = x.about(3);
            box = x.about(4);
            purse = new int[n];
            facts = new int[n][11];
            debts = new int[n][n];
            for (int i = 0; i < n; i++) {
                purse[i] = x.member(i, 0);
                for (int what = 0; what <= 10; what++) {
                    facts[i][what] = x.member(i, what);
                }
                for (int j = 0; j < n; j++) {
                    debts[i][j] = i == j ? 0 : x.owes(i, j);
                }
            }
            work(x.about(2));
        }

        private void work(int month) {
            String paid = "";
            String served = "";
            for (int i = 0; i < n; i++) {
                if (facts[i][5] == 1 && facts[i][3] == 0 && purse[i] >= c) {
                    purse[i] -= c;
                    facts[i][6] += c;
                    pot += c;
                    paid += i;
                }
            }
            served = paid;
            for (int i = 0; i < n; i++) {
                int g = facts[i][1];
                if (facts[i][5] == 1 && !paid.contains("" + i)) {
                    if (g != NONE && paid.contains("" + g) && purse[g] >= c) {
                        purse[g] -= c;
                        facts[g][7] += c;
                        debts[i][g] += c;
                        pot += c;
                        served += i;
                    } else {
                        facts[i][10]++;
                    }
                }
            }
            int half = pot / 2;
            for (int b = half; b >= 0 && taker == NONE; b--) {
                for (int k = month; k < month + n && taker == NONE; k++) {
                    int i = k % n;
                    if (served.contains("" + i) && facts[i][4] == 0 && (facts[i][2] == b || b == half && facts[i][2] > b)) {
                        taker = i;
                        give(b, served.replace("" + i, ""));
                    }
                }
            }
            if (taker == NONE) {
                box += pot;
            }
        }

        private void give(int bid, String others) {
            box += bid;
            for (int j = 0; j < n; j++) {
                if (others.contains("" + j)) {
                    int share = bid / others.length();
                    purse[j] += share;
                    facts[j][9] += share;
                    box -= share;
                }
            }
            facts[taker][8] = pot - bid;
            facts[taker][4] = 1;
            for (int penny = 0; penny < pot - bid; penny++) {
                int to = taker;
                for (int j = n - 1; j >= 0; j--) {
                    to = debts[taker][j] > 0 ? j : to;
                }
                debts[taker][to] -= to == taker ? 0 : 1;
                purse[to]++;
            }
        }

        /** As Check.all tells it after the month. */
        String all(SavingsCircle x) {
            int purses = 0;
            int owed = 0;
            int waiting = 0;
            StringBuilder members = new StringBuilder();
            for (int i = 0; i < n; i++) {
                facts[i][0] = purse[i];
                facts[i][2] = 0;
                facts[i][3] = 0;
                purses += purse[i];
                waiting += facts[i][5] == 1 && facts[i][4] == 0 ? 1 : 0;
                members.append('|');
                for (int fact : facts[i]) {
                    members.append(fact).append(' ');
                }
                for (int j = 0; j < n; j++) {
                    owed += debts[i][j];
                    members.append(i == j ? "- " : debts[i][j] + " ");
                }
            }
            return n + " " + x.about(1) + " " + x.about(2) + " " + c + " " + box + " " + purses + " " + waiting
                + " " + owed + " " + x.about(8) + " " + members + "text " + x.errorPosition();
        }
    }
}
