/**
 * A savings circle: members pay in each month, and one of them takes the pot. The document
 * ../shared/DOC.md says what each call answers. All rows are made in constructors and used again,
 * so that no call but the constructor makes an object (an exception that is due aside).
 */
public final class SavingsCircle {
    public static final int NONE = -99999;

    private static final int MAX_MEMBERS = 8;
    private static final int MAX_PENCE = 999;
    private static final int MAX_CONTRIBUTION = 50;
    private static final int FIRST_CONTRIBUTION = 10;
    private static final int MAX_GIVEN = 9000;
    private static final int LAST_MONTH = 99;
    private static final int MONTHS_AHEAD = 20;
    private static final int MAX_SIMULATED = 40;
    private static final int MAX_MISSES_TOLD = 999;
    private static final int MAX_TEXT = 100;
    private static final int MAX_PAST = 14;
    private static final int SLOTS = 2;
    private static final int MAX_COMMANDS = 3;
    private static final int GROUP = 100000;

    private final State now = new State();
    private final State trial = new State();
    private final Round round = new Round();
    private final Script commands = new Script();
    private final Past past = new Past();
    private final Text text = new Text();
    private final State[] slots = new State[SLOTS];
    private final boolean[] slotUsed = new boolean[SLOTS];

    public SavingsCircle() {
        for (int k = 0; k < SLOTS; k++) {
            slots[k] = new State();
        }
    }

    // ---- text

    public int append(int c) throws IllegalArgumentException, IllegalStateException {
        requireRange(c, 0, 255);
        if (text.length >= MAX_TEXT) {
            throw new IllegalStateException("the text is full");
        }
        return text.add(c);
    }

    public int clearText() {
        int before = text.length;
        text.length = 0;
        return before;
    }

    public int errorPosition() {
        return text.readInto(trial);
    }

    public int load() throws IllegalStateException {
        if (text.readInto(trial) != NONE) {
            throw new IllegalStateException("the text is not a circle");
        }
        now.copyFrom(trial);
        past.forgetAll();
        for (int k = 0; k < SLOTS; k++) {
            slotUsed[k] = false;
        }
        return now.count;
    }

    // ---- what there is

    public int about(int what) throws IllegalArgumentException {
        switch (what) {
            case 0: return now.count;
            case 1: return now.countInside();
            case 2: return now.month;
            case 3: return now.contribution;
            case 4: return now.box;
            case 5: return now.sumOfPurses();
            case 6: return now.countWaiting();
            case 7: return now.sumOfDebts();
            case 8: return now.given;
            default: throw new IllegalArgumentException("there is no such number");
        }
    }

    public int member(int i, int what) throws IndexOutOfBoundsException, IllegalArgumentException {
        requireMember(i);
        switch (what) {
            case 0: return now.purse[i];
            case 1: return now.guarantor[i];
            case 2: return now.bid[i];
            case 3: return now.away[i] ? 1 : 0;
            case 4: return now.taken[i] ? 1 : 0;
            case 5: return now.inside[i] ? 1 : 0;
            case 6: return now.paidForItself[i];
            case 7: return now.paidForOthers[i];
            case 8: return now.gotOfPot[i];
            case 9: return now.shares[i];
            case 10: return now.misses[i];
            default: throw new IllegalArgumentException("there is no such number of a member");
        }
    }

    public int owes(int i, int j) throws IndexOutOfBoundsException, IllegalArgumentException {
        requireTwoMembers(i, j);
        return now.debt[State.pair(i, j)];
    }

    public int chain(int i) throws IndexOutOfBoundsException {
        requireMember(i);
        return now.chainLength(i);
    }

    public int rate(int i) throws IndexOutOfBoundsException {
        requireMember(i);
        int got = now.gotOfPot[i] + now.shares[i];
        int paid = now.paidForItself[i] + now.paidForOthers[i];
        if (paid == 0) {
            return 0;
        }
        return bitsOf((float) got / (float) paid);
    }

    // ---- actions

    public int addMember(int purse) throws IllegalArgumentException, IllegalStateException {
        requireRange(purse, 0, MAX_PENCE);
        if (now.count >= MAX_MEMBERS) {
            throw new IllegalStateException("the circle is full");
        }
        past.remember(now);
        return now.join(purse);
    }

    public int setContribution(int c) throws IllegalArgumentException {
        requireRange(c, 1, MAX_CONTRIBUTION);
        past.remember(now);
        int before = now.contribution;
        now.contribution = c;
        return before;
    }

    public int setGuarantor(int i, int g) throws IndexOutOfBoundsException, IllegalArgumentException {
        if (g == NONE) {
            requireMember(i);
        } else {
            requireTwoMembers(i, g);
        }
        past.remember(now);
        int before = now.guarantor[i];
        now.guarantor[i] = g;
        return before;
    }

    public int bid(int i, int n) throws IndexOutOfBoundsException, IllegalArgumentException, IllegalStateException {
        requireMember(i);
        requireRange(n, 0, MAX_PENCE);
        if (!now.mayBid(i)) {
            throw new IllegalStateException("it is not in the circle, or has taken the pot");
        }
        past.remember(now);
        int before = now.bid[i];
        now.bid[i] = n;
        return before;
    }

    public boolean stayAway(int i, boolean is) throws IndexOutOfBoundsException {
        requireMember(i);
        past.remember(now);
        boolean before = now.away[i];
        now.away[i] = is;
        return before;
    }

    public int give(int i, int n) throws IndexOutOfBoundsException, IllegalArgumentException, IllegalStateException {
        requireMember(i);
        requireRange(n, 1, MAX_PENCE);
        if (!now.mayReceive(n)) {
            throw new IllegalStateException("too many pence would have been given");
        }
        past.remember(now);
        now.receive(i, n);
        return now.purse[i];
    }

    public int month() throws IllegalStateException {
        if (!now.mayPass()) {
            throw new IllegalStateException("nobody is in the circle, or it is the last month");
        }
        past.remember(now);
        return round.pass(now);
    }

    public int leave(int i) throws IndexOutOfBoundsException, IllegalStateException {
        requireMember(i);
        if (!now.mayGo(i)) {
            throw new IllegalStateException("it is not in the circle, or cannot pay");
        }
        past.remember(now);
        return now.go(i);
    }

    public int repay(int i, int j) throws IndexOutOfBoundsException, IllegalArgumentException {
        requireTwoMembers(i, j);
        past.remember(now);
        int paid = now.settle(i, j, now.purse[i]);
        now.purse[i] -= paid;
        return paid;
    }

    public int undo() throws IllegalStateException {
        if (past.size <= 0) {
            throw new IllegalStateException("no state is remembered");
        }
        return past.takeBack(now);
    }

    // ---- what would be

    public int winner() {
        trial.copyFrom(now);
        return round.pass(trial);
    }

    public int pot() {
        trial.copyFrom(now);
        round.payIn(trial);
        return round.pence;
    }

    public int change(int i) throws IndexOutOfBoundsException {
        requireMember(i);
        trial.copyFrom(now);
        round.pass(trial);
        return trial.purse[i] - now.purse[i];
    }

    public int leastBid(int i) throws IndexOutOfBoundsException {
        requireMember(i);
        trial.copyFrom(now);
        round.payIn(trial);
        if (!round.canTake(trial, i)) {
            return NONE;
        }
        // No bid below the greatest of the others wins; if neither it nor one more does, half of
        // the pot is reached, and no greater bid counts for more.
        int least = round.greatestBidBeside(trial, i);
        for (int n = least; n <= least + 1; n++) {
            trial.bid[i] = n;
            if (round.taker(trial) == i) {
                return n;
            }
        }
        return NONE;
    }

    public int pillar() {
        int found = NONE;
        int smallest = 0;
        for (int i = 0; i < now.count; i++) {
            if (now.inside[i]) {
                int left = potWithout(i);
                if (found == NONE || left < smallest) {
                    found = i;
                    smallest = left;
                }
            }
        }
        return found;
    }

    public int when(int i) throws IndexOutOfBoundsException {
        requireMember(i);
        trial.copyFrom(now);
        for (int k = 0; k < MONTHS_AHEAD && trial.mayPass(); k++) {
            int present = trial.month;
            if (round.pass(trial) == i) {
                return present;
            }
        }
        return NONE;
    }

    public int inTheEnd(int i) throws IndexOutOfBoundsException {
        requireMember(i);
        trial.copyFrom(now);
        for (int k = 0; k < MONTHS_AHEAD && trial.countWaiting() > 0 && trial.mayPass(); k++) {
            round.pass(trial);
        }
        return trial.purse[i];
    }

    // ---- scripts, simulations

    public int runScript(int n, long script) throws IllegalArgumentException {
        requireRange(n, 1, MAX_COMMANDS);
        if (script < 0 || withoutLowGroups(script, n) != 0) {
            throw new IllegalArgumentException("the script is negative or too long");
        }
        commands.state.copyFrom(now);
        for (int k = 0; k < n; k++) {
            int group = (int) (withoutLowGroups(script, n - 1 - k) % GROUP);
            if (!commands.succeeds(group)) {
                return k;
            }
        }
        return NONE;
    }

    public int simulate(long seed, int m) throws IllegalArgumentException {
        requireRange(m, 1, MAX_SIMULATED);
        trial.copyFrom(now);
        int missesBefore = trial.sumOfMisses();
        long x = seed;
        for (int k = 0; k < m; k++) {
            for (int i = 0; i < trial.count; i++) {
                x = x * 6364136223846793005L + 1442695040888963407L;
                trial.decide(i, (int) (x >>> 33));
            }
            if (trial.mayPass()) {
                round.pass(trial);
            }
        }
        int missed = trial.sumOfMisses() - missesBefore;
        return 1000 * trial.countTaken() + Math.min(missed, MAX_MISSES_TOLD);
    }

    // ---- save slots

    public int save(int slot) throws IndexOutOfBoundsException {
        requireSlot(slot);
        slots[slot].copyFrom(now);
        slotUsed[slot] = true;
        return now.month;
    }

    public int restore(int slot) throws IndexOutOfBoundsException, IllegalStateException {
        requireSlot(slot);
        if (!slotUsed[slot]) {
            throw new IllegalStateException("nothing has been saved there");
        }
        now.copyFrom(slots[slot]);
        past.forgetAll();
        return now.month;
    }

    // ---- helpers

    private void requireMember(int i) {
        if (!now.exists(i)) {
            throw new IndexOutOfBoundsException("there is no such member");
        }
    }

    private void requireTwoMembers(int i, int j) {
        requireMember(i);
        requireMember(j);
        if (i == j) {
            throw new IllegalArgumentException("the members have to be different");
        }
    }

    private static void requireRange(int value, int low, int high) {
        if (value < low || value > high) {
            throw new IllegalArgumentException("an argument is out of its range");
        }
    }

    private static void requireSlot(int slot) {
        if (slot < 0 || slot >= SLOTS) {
            throw new IndexOutOfBoundsException("there is no such save slot");
        }
    }

    private int potWithout(int i) {
        trial.copyFrom(now);
        trial.away[i] = true;
        round.payIn(trial);
        return round.pence;
    }

    private static long withoutLowGroups(long number, int groups) {
        long rest = number;
        for (int k = 0; k < groups; k++) {
            rest /= GROUP;
        }
        return rest;
    }

    /**
     * The bits of a float that is 0 or more and below 16777216 (no rate is as great as that). The
     * library's own function is not among those that LANGUAGE.md allows; doubling is exact.
     */
    private static int bitsOf(float value) {
        if (value <= 0f) {
            return 0;
        }
        float scaled = value;
        int exponent = 127 + 23;
        for (int k = 0; k < 126 && scaled < 8388608f; k++) {
            scaled = scaled * 2f;
            exponent--;
        }
        return (exponent << 23) + ((int) scaled - 8388608);
    }

    /** Everything that actions change: the circle as it stands at one moment. */
    private static final class State {
        int count;
        int month;
        int contribution = FIRST_CONTRIBUTION;
        int box;
        int given;
        final int[] purse = new int[MAX_MEMBERS];
        final int[] guarantor = new int[MAX_MEMBERS];
        final int[] bid = new int[MAX_MEMBERS];
        final boolean[] away = new boolean[MAX_MEMBERS];
        final boolean[] taken = new boolean[MAX_MEMBERS];
        final boolean[] inside = new boolean[MAX_MEMBERS];
        final int[] paidForItself = new int[MAX_MEMBERS];
        final int[] paidForOthers = new int[MAX_MEMBERS];
        final int[] gotOfPot = new int[MAX_MEMBERS];
        final int[] shares = new int[MAX_MEMBERS];
        final int[] misses = new int[MAX_MEMBERS];
        final int[] debt = new int[MAX_MEMBERS * MAX_MEMBERS];

        static int pair(int debtor, int creditor) {
            return debtor * MAX_MEMBERS + creditor;
        }

        void copyFrom(State other) {
            count = other.count;
            month = other.month;
            contribution = other.contribution;
            box = other.box;
            given = other.given;
            for (int i = 0; i < MAX_MEMBERS; i++) {
                purse[i] = other.purse[i];
                guarantor[i] = other.guarantor[i];
                bid[i] = other.bid[i];
                away[i] = other.away[i];
                taken[i] = other.taken[i];
                inside[i] = other.inside[i];
                paidForItself[i] = other.paidForItself[i];
                paidForOthers[i] = other.paidForOthers[i];
                gotOfPot[i] = other.gotOfPot[i];
                shares[i] = other.shares[i];
                misses[i] = other.misses[i];
            }
            for (int k = 0; k < debt.length; k++) {
                debt[k] = other.debt[k];
            }
        }

        void becomeEmpty(int firstContribution) {
            count = 0;
            month = 0;
            contribution = firstContribution;
            box = 0;
            given = 0;
            for (int k = 0; k < debt.length; k++) {
                debt[k] = 0;
            }
        }

        boolean exists(int i) {
            return i >= 0 && i < count;
        }

        /** The caller has seen that there is room. A row may hold an earlier circle's numbers. */
        int join(int firstPurse) {
            int i = count;
            purse[i] = firstPurse;
            guarantor[i] = NONE;
            bid[i] = 0;
            away[i] = false;
            taken[i] = false;
            inside[i] = true;
            paidForItself[i] = 0;
            paidForOthers[i] = 0;
            gotOfPot[i] = 0;
            shares[i] = 0;
            misses[i] = 0;
            given += firstPurse;
            count++;
            return i;
        }

        int countInside() {
            int n = 0;
            for (int i = 0; i < count; i++) {
                if (inside[i]) {
                    n++;
                }
            }
            return n;
        }

        int countWaiting() {
            int n = 0;
            for (int i = 0; i < count; i++) {
                if (inside[i] && !taken[i]) {
                    n++;
                }
            }
            return n;
        }

        int countTaken() {
            int n = 0;
            for (int i = 0; i < count; i++) {
                if (taken[i]) {
                    n++;
                }
            }
            return n;
        }

        int sumOfPurses() {
            int sum = 0;
            for (int i = 0; i < count; i++) {
                sum += purse[i];
            }
            return sum;
        }

        int sumOfDebts() {
            int sum = 0;
            for (int k = 0; k < debt.length; k++) {
                sum += debt[k];
            }
            return sum;
        }

        int sumOfMisses() {
            int sum = 0;
            for (int i = 0; i < count; i++) {
                sum += misses[i];
            }
            return sum;
        }

        /** A chain that names as many members as there are has met all of them. */
        int chainLength(int i) {
            int met = 0;
            int length = 0;
            int at = i;
            while (length < MAX_MEMBERS && exists(at) && (met >> at & 1) == 0) {
                met |= 1 << at;
                length++;
                at = guarantor[at];
            }
            return length;
        }

        boolean mayBid(int i) {
            return inside[i] && !taken[i];
        }

        boolean mayReceive(int n) {
            return given + n <= MAX_GIVEN;
        }

        void receive(int i, int n) {
            purse[i] += n;
            given += n;
        }

        boolean mayPass() {
            return month < LAST_MONTH && countInside() > 0;
        }

        boolean mayGo(int i) {
            return inside[i] && purse[i] + gainOfGoing(i) >= 0;
        }

        /** For a member in the circle: what it gets if it leaves (less than 0: what it pays). */
        int gainOfGoing(int i) {
            if (taken[i]) {
                return -contribution * countWaiting();
            }
            return Math.min(paidForItself[i] / 2, box);
        }

        int go(int i) {
            int gain = gainOfGoing(i);
            purse[i] += gain;
            box -= gain;
            inside[i] = false;
            return gain;
        }

        /** Lets the creditor get what is owed, as far as these pence go; tells how many went. */
        int settle(int debtor, int creditor, int pence) {
            int k = pair(debtor, creditor);
            int paid = Math.min(debt[k], pence);
            debt[k] -= paid;
            purse[creditor] += paid;
            return paid;
        }

        /** What the simulation lets a member do, told by a number that is not negative. */
        void decide(int i, int r) {
            if (!inside[i]) {
                return;
            }
            away[i] = r % 8 == 0;
            if (!taken[i]) {
                bid[i] = r / 8 % 40;
            }
        }
    }

    /** Lets a month go by on a state, in the parts that the document numbers. */
    private static final class Round {
        final boolean[] paid = new boolean[MAX_MEMBERS];
        final boolean[] missing = new boolean[MAX_MEMBERS];
        int pence;

        int pass(State s) {
            payIn(s);
            int winning = taker(s);
            if (winning == NONE) {
                s.box += pence;
            } else {
                share(s, winning);
                payOut(s, winning);
            }
            for (int i = 0; i < s.count; i++) {
                s.bid[i] = 0;
                s.away[i] = false;
            }
            s.month++;
            return winning;
        }

        void payIn(State s) {
            pence = 0;
            for (int i = 0; i < s.count; i++) {
                missing[i] = false;
                paid[i] = s.inside[i] && !s.away[i] && s.purse[i] >= s.contribution;
                if (paid[i]) {
                    s.purse[i] -= s.contribution;
                    s.paidForItself[i] += s.contribution;
                    pence += s.contribution;
                }
            }
            for (int i = 0; i < s.count; i++) {
                if (s.inside[i] && !paid[i]) {
                    payForOther(s, i);
                }
            }
        }

        /** That the guarantor has paid in part 1 tells that it is in the circle as well. */
        private void payForOther(State s, int i) {
            int g = s.guarantor[i];
            if (s.exists(g) && paid[g] && s.purse[g] >= s.contribution) {
                s.purse[g] -= s.contribution;
                s.paidForOthers[g] += s.contribution;
                s.debt[State.pair(i, g)] += s.contribution;
                pence += s.contribution;
            } else {
                missing[i] = true;
                s.misses[i]++;
            }
        }

        /** This and what follows build on payIn. */
        boolean takesPart(State s, int i) {
            return s.inside[i] && !missing[i];
        }

        boolean canTake(State s, int i) {
            return takesPart(s, i) && !s.taken[i];
        }

        int countedBid(State s, int i) {
            return Math.min(s.bid[i], pence / 2);
        }

        int taker(State s) {
            int best = NONE;
            int first = s.count > 0 ? s.month % s.count : 0;
            for (int k = 0; k < s.count; k++) {
                int i = first + k < s.count ? first + k : first + k - s.count;
                if (canTake(s, i) && (best == NONE || countedBid(s, i) > countedBid(s, best))) {
                    best = i;
                }
            }
            return best;
        }

        int greatestBidBeside(State s, int one) {
            int greatest = 0;
            for (int i = 0; i < s.count; i++) {
                if (i != one && canTake(s, i)) {
                    greatest = Math.max(greatest, countedBid(s, i));
                }
            }
            return greatest;
        }

        private void share(State s, int winning) {
            int others = 0;
            for (int i = 0; i < s.count; i++) {
                if (i != winning && takesPart(s, i)) {
                    others++;
                }
            }
            int bid = countedBid(s, winning);
            int each = others > 0 ? bid / others : 0;
            for (int i = 0; i < s.count; i++) {
                if (i != winning && takesPart(s, i)) {
                    s.purse[i] += each;
                    s.shares[i] += each;
                }
            }
            s.box += bid - each * others;
        }

        private void payOut(State s, int winning) {
            int rest = pence - countedBid(s, winning);
            s.gotOfPot[winning] = rest;
            s.taken[winning] = true;
            for (int j = 0; j < s.count; j++) {
                rest -= s.settle(winning, j, rest);
            }
            s.purse[winning] += rest;
        }
    }

    /** The commands of scripts, on a state that is a copy already. */
    private static final class Script {
        final State state = new State();
        private final Round round = new Round();

        /** The group is 0 to 99999. What a command that fails leaves behind does not matter. */
        boolean succeeds(int group) {
            int command = group / 10000;
            int i = group / 1000 % 10;
            int third = group / 100 % 10;
            int lastThree = group % 1000;
            int lastTwo = group % 100;
            if (command == 1) {
                return i == 0 && lastThree < 10 && monthsPass(lastThree);
            }
            if (!state.exists(i)) {
                return false;
            }
            switch (command) {
                case 2: return bidOf(i, lastThree);
                case 3: return lastTwo == 0 && guarantorOf(i, third);
                case 4: return lastTwo == 0 && third <= 1 && markOf(i, third == 1);
                case 5: return gift(i, lastThree);
                case 6: return lastThree == 0 && going(i);
                case 7: return state.purse[i] >= lastThree;
                case 8: return owesAtMost(i, third, lastTwo);
                case 9: return lastThree == 0 && state.taken[i];
                default: return false;
            }
        }

        private boolean monthsPass(int n) {
            for (int k = 0; k < n; k++) {
                if (!state.mayPass()) {
                    return false;
                }
                round.pass(state);
            }
            return n > 0;
        }

        private boolean bidOf(int i, int n) {
            if (!state.mayBid(i)) {
                return false;
            }
            state.bid[i] = n;
            return true;
        }

        private boolean guarantorOf(int i, int g) {
            if (!state.exists(g) || g == i) {
                return false;
            }
            state.guarantor[i] = g;
            return true;
        }

        private boolean markOf(int i, boolean is) {
            state.away[i] = is;
            return true;
        }

        private boolean gift(int i, int n) {
            if (n == 0 || !state.mayReceive(n)) {
                return false;
            }
            state.receive(i, n);
            return true;
        }

        private boolean going(int i) {
            if (!state.mayGo(i)) {
                return false;
            }
            state.go(i);
            return true;
        }

        private boolean owesAtMost(int i, int j, int pence) {
            return state.exists(j) && i != j && state.debt[State.pair(i, j)] <= pence;
        }
    }

    /** The states that undo can take back: a ring, in which the oldest one gives way. */
    private static final class Past {
        final State[] states = new State[MAX_PAST];
        int size;
        private int next;

        Past() {
            for (int k = 0; k < MAX_PAST; k++) {
                states[k] = new State();
            }
        }

        void forgetAll() {
            size = 0;
        }

        void remember(State s) {
            states[next].copyFrom(s);
            next = next + 1 < MAX_PAST ? next + 1 : 0;
            size = Math.min(size + 1, MAX_PAST);
        }

        /** The caller has seen that one is remembered. */
        int takeBack(State s) {
            next = next > 0 ? next - 1 : MAX_PAST - 1;
            size--;
            s.copyFrom(states[next]);
            return size;
        }
    }

    /** The text buffer, and how a circle is read from it. */
    private static final class Text {
        private final int[] signs = new int[MAX_TEXT];
        int length;
        // While a text is read, always the first place that has not been allowed yet.
        private int at;

        /** The caller has seen that there is room. */
        int add(int c) {
            signs[length] = c;
            length++;
            return length;
        }

        /** Tells the error position, or NONE; only then the state is the circle of the text. */
        int readInto(State s) {
            at = 0;
            return readContribution(s) && readParts(s) ? NONE : at;
        }

        private boolean readContribution(State s) {
            if (at >= length || signs[at] != 'C') {
                return false;
            }
            at++;
            int tens = readDigit(0, 5, NONE);
            if (tens == NONE) {
                return false;
            }
            int ones = readDigit(tens == 0 ? 1 : 0, tens == 5 ? 0 : 9, NONE);
            if (ones == NONE) {
                return false;
            }
            s.becomeEmpty(10 * tens + ones);
            return true;
        }

        private boolean readParts(State s) {
            for (int k = 0; k < MAX_TEXT && at < length; k++) {
                if (!readPart(s)) {
                    return false;
                }
            }
            return true;
        }

        private boolean readPart(State s) {
            int kind = at < length ? signs[at] : 0;
            if (kind == 'm' && s.count < MAX_MEMBERS) {
                at++;
                return readMember(s);
            }
            if (kind == 'g' && s.count >= 2) {
                at++;
                return readGuarantor(s);
            }
            if (kind == 'b' && s.count >= 1) {
                at++;
                return readBid(s);
            }
            return false;
        }

        private boolean readMember(State s) {
            int purse = readThreeDigits();
            if (purse == NONE) {
                return false;
            }
            s.join(purse);
            return true;
        }

        private boolean readGuarantor(State s) {
            int i = readDigit(0, s.count - 1, NONE);
            if (i == NONE) {
                return false;
            }
            int g = readDigit(0, s.count - 1, i);
            if (g == NONE) {
                return false;
            }
            s.guarantor[i] = g;
            return true;
        }

        private boolean readBid(State s) {
            int i = readDigit(0, s.count - 1, NONE);
            if (i == NONE) {
                return false;
            }
            int n = readThreeDigits();
            if (n == NONE) {
                return false;
            }
            s.bid[i] = n;
            return true;
        }

        private int readThreeDigits() {
            int number = 0;
            for (int k = 0; k < 3; k++) {
                int digit = readDigit(0, 9, NONE);
                if (digit == NONE) {
                    return NONE;
                }
                number = 10 * number + digit;
            }
            return number;
        }

        /** Goes behind a digit from low to high other than one, and tells it; otherwise NONE. */
        private int readDigit(int low, int high, int other) {
            if (at >= length) {
                return NONE;
            }
            int digit = signs[at] - '0';
            if (digit < low || digit > high || digit == other) {
                return NONE;
            }
            at++;
            return digit;
        }
    }
}
