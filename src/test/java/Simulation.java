/** What simulate has to answer, worked out by actions; the calls are kept few, since an object has 512 of them. */
final class Simulation {
    private final SavingsCircle x;
    private final int n;
    private final boolean[] inside;
    private final boolean[] taken;
    private long seed;

    private Simulation(SavingsCircle x, long seed) {
        this.x = x;
        this.seed = seed;
        n = x.about(0);
        inside = new boolean[n];
        taken = new boolean[n];
        for (int i = 0; i < n; i++) {
            inside[i] = x.member(i, 5) == 1;
            taken[i] = x.member(i, 4) == 1;
        }
    }

    /** The circle is used up by that. A month costs at most 17 calls, on the average of the seeds some 10. */
    static int of(SavingsCircle x, long seed, int months) {
        Simulation s = new Simulation(x, seed);
        int missedBefore = s.sum(10);
        int passing = x.about(1) > 0 ? Math.min(months, 99 - x.about(2)) : 0;
        for (int k = 0; k < passing; k++) {
            s.pass(k == 0);
        }
        return 1000 * s.sum(4) + Math.min(999, s.sum(10) - missedBefore);
    }

    /** Behind a month there are neither marks nor bids, so that only what differs has to be told. */
    private void pass(boolean first) {
        for (int i = 0; i < n; i++) {
            seed = seed * 6364136223846793005L + 1442695040888963407L;
            int r = (int) (seed >>> 33);
            if (inside[i] && (first || r % 8 == 0)) {
                x.stayAway(i, r % 8 == 0);
            }
            if (inside[i] && !taken[i] && (first || r / 8 % 40 > 0)) {
                x.bid(i, r / 8 % 40);
            }
        }
        int winner = x.month();
        if (winner != SavingsCircle.NONE) {
            taken[winner] = true;
        }
    }

    private int sum(int what) {
        int sum = 0;
        for (int i = 0; i < n; i++) {
            sum += x.member(i, what);
        }
        return sum;
    }
}
