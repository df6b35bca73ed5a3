import java.util.List;
import java.util.function.Supplier;

/** Circles for the tests: one in the midst of things, one that is full, one at its end. */
final class Circles {
    private Circles() {
    }

    static List<Supplier<SavingsCircle>> all() {
        return List.of(SavingsCircle::new, Circles::rich, Circles::full, Circles::late);
    }

    /** 2 has taken the pot, 1 owes 10 to 0, 3 has left; slot 0 is used; the text is another one. */
    static SavingsCircle rich() {
        SavingsCircle x = Check.circle("C10m100m005m300m040g10b2015");
        x.month();
        x.leave(3);
        x.save(0);
        x.bid(0, 4);
        x.stayAway(1, true);
        x.setGuarantor(0, 2);
        x.give(2, 6);
        Check.write(x, "C20m001m002g01");
        return x;
    }

    /** 8 members, the last one marked, 9000 pence given, 14 states remembered, a full text, both slots used. */
    static SavingsCircle full() {
        SavingsCircle x = Check.circle("C50" + "m999".repeat(8) + "g07g10b0002b1001");
        x.month();
        x.save(0);
        x.setContribution(7);
        x.give(1, 999);
        x.save(1);
        x.give(0, 9);
        x.stayAway(7, true);
        for (int k = 0; k < 14; k++) {
            x.bid(3, k);
        }
        Check.write(x, "C07m100".repeat(15).substring(0, 100));
        return x;
    }

    /** The month is 99; 0 has taken the pot, 1 never could. */
    static SavingsCircle late() {
        SavingsCircle x = Check.circle("C01m200m000");
        Check.months(x, 99);
        x.save(1);
        x.give(1, 1);
        return x;
    }
}
