import java.io.IOException;
import java.util.List;
import java.util.function.Supplier;
import java.util.function.ToIntBiFunction;
import java.util.function.ToIntFunction;

/** The boundary cases of promises 21 to 27, sentence by sentence. */
final class ForecastEdgesTest {
    private static final int NONE = Check.NONE;
    private static final int[] NO_MEMBERS = {-1, NONE, Integer.MIN_VALUE, Integer.MAX_VALUE};

    public static void main(String[] args) throws IOException {
        Check.readDocument(args);
        noSuchMember();
        winner();
        inMonth99();
        pot();
        change();
        leastBid();
        leastBidAgainstHalf();
        leastBidOfNone();
        pillar();
        pillarOfNobody();
        when();
        whenAsFar();
        whenNot();
        inTheEnd();
        inTheEndAfter20();
        inTheEndAsFar();
        inTheEndNow();
        theyChangeNothing();
        whatWasAskedBefore();
        Check.end();
    }

    private static void noSuchMember() {
        Check.says(23, "Throws `IndexOutOfBoundsException` if there is no such member");
        noSuchMember((x, i) -> x.change(i));
        Check.says(24, "Throws `IndexOutOfBoundsException` if there is no such member");
        noSuchMember((x, i) -> x.leastBid(i));
        Check.says(26, "Throws `IndexOutOfBoundsException` if there is no such member");
        noSuchMember((x, i) -> x.when(i));
        Check.says(27, "Throws `IndexOutOfBoundsException` if there is no such member");
        noSuchMember((x, i) -> x.inTheEnd(i));
    }

    private static void noSuchMember(ToIntBiFunction<SavingsCircle, Integer> call) {
        for (Supplier<SavingsCircle> making : Circles.all()) {
            int n = making.get().about(0);
            Check.leavesNoTrace("the member behind the last", Check.NO_SUCH, making, x -> call.applyAsInt(x, n));
            for (int i : NO_MEMBERS) {
                Check.leavesNoTrace("the member " + i, Check.NO_SUCH, making, x -> call.applyAsInt(x, i));
            }
        }
    }

    private static void winner() {
        Check.says(21, "NONE if nobody would.");
        Check.due("no members", new SavingsCircle().winner(), NONE);
        SavingsCircle x = Check.circle("C10m010");
        Check.due("one member", x.winner(), 0);
        x.stayAway(0, true);
        Check.due("it stays away", x.winner(), NONE);
        x.stayAway(0, false);
        x.setContribution(11);
        Check.due("it cannot pay", x.winner(), NONE);
        x.setContribution(10);
        x.month();
        Check.due("it has taken the pot", x.winner(), NONE);
        SavingsCircle y = Check.circle("C10m010m010");
        y.leave(0);
        Check.due("one has left", y.winner(), 1);
        y.leave(1);
        Check.due("all have left", y.winner(), NONE);
    }

    private static void inMonth99() {
        Check.says(21, "Returns the member who would take the pot if this month went by now (also in the month 99, as with the next four methods)");
        SavingsCircle x = Check.circle("C50" + "m049".repeat(4));
        Check.months(x, 99);
        x.setContribution(7);
        Check.due("month", x.about(2), 99);
        Check.due("winner: 99 as the remainder by 4", x.winner(), 3);
        x.bid(1, 5);
        Check.due("winner by its bid", x.winner(), 1);
        Check.due("pot", x.pot(), 28);
        Check.due("change of the winner", x.change(1), -7 + 23);
        Check.due("change of another", x.change(0), -7 + 1);
        Check.due("leastBid of the first in the row", x.leastBid(3), 5);
        Check.due("leastBid of 0, ahead of 1 in the row", x.leastBid(0), 5);
        Check.due("leastBid of 2, behind it", x.leastBid(2), 6);
        x.setGuarantor(0, 2);
        x.stayAway(0, true);
        Check.due("pillar", x.pillar(), 2);
        Check.due("when, which is not one of the four", x.when(1), NONE);
        Check.due("inTheEnd: now", x.inTheEnd(1), 49);
        Check.refused(x, "month()", Check.STATE, () -> x.month());
    }

    private static void pot() {
        Check.says(22, "Returns the pence that would be paid into the pot if this month went by now.");
        Check.due("no members", new SavingsCircle().pot(), 0);
        Check.due("8 that pay 50", Check.circle("C50" + "m050".repeat(8)).pot(), 400);
        Check.due("8 that cannot", Check.circle("C50" + "m049".repeat(8)).pot(), 0);
        SavingsCircle x = Check.circle("C50m099m000g10");
        Check.due("a guarantor with one penny less", x.pot(), 50);
        x.give(0, 1);
        Check.due("a guarantor with just enough", x.pot(), 100);
        x.month();
        x.leave(1);
        x.leave(0);
        Check.due("all have left", x.pot(), 0);
    }

    private static void change() {
        Check.says(23, "Returns by how much its purse would become greater if this month went by now (less than 0: smaller).");
        SavingsCircle x = Check.circle("C10m010m100m009m100b0001");
        Check.due("who takes the pot", x.change(0), -10 + 29);
        Check.due("who pays", x.change(1), -10);
        Check.due("who misses", x.change(2), 0);
        x.setGuarantor(2, 1);
        Check.due("who is paid for", x.change(2), 0);
        Check.due("who pays twice", x.change(1), -20);
        x.leave(3);
        Check.due("who has left", x.change(3), 0);
        x.leave(0);
        x.leave(1);
        x.leave(2);
        Check.due("when all have left", x.change(1), 0);
    }

    private static void leastBid() {
        Check.says(24, "Returns the smallest bid, 0 to 999, with which this member would take the pot if this month went by now; NONE if there is none.");
        for (int other = 0; other <= 14; other++) {
            SavingsCircle x = Check.circle("C10m100m100m100");
            x.bid(1, other);
            Check.due("first in the row, against " + other, x.leastBid(0), other);
            Check.due("last in the row, against " + other, x.leastBid(2), other + 1);
            Check.due("itself, against 0", x.leastBid(1), 1);
            x.bid(0, 999);
            Check.due("its own bid does not matter", x.leastBid(0), other);
        }
        Check.due("the only member", Check.circle("C10m100").leastBid(0), 0);
    }

    private static void leastBidAgainstHalf() {
        Check.says(24, "NONE if there is none.");
        for (int c = 1; c <= 50; c++) {
            for (int n = 2; n <= 8; n += 3) {
                int half = n * c / 2;
                for (int other : new int[] {half - 1, half, half + 1, 999}) {
                    SavingsCircle x = new SavingsCircle();
                    x.setContribution(c);
                    for (int i = 0; i < n; i++) {
                        x.addMember(50);
                    }
                    x.bid(1, other);
                    Check.due("first in the row", x.leastBid(0), Math.min(other, half));
                    x.undo();
                    x.bid(0, other);
                    Check.due("last in the row", x.leastBid(n - 1), other < half ? other + 1 : NONE);
                }
            }
        }
        Check.due("half of a pot of 1", Check.circle("C01m001m000").leastBid(0), 0);
        SavingsCircle helped = Check.circle("C10m000m100m100g01b2015");
        Check.due("one that is paid for", helped.leastBid(0), 15);
        helped.setGuarantor(0, NONE);
        Check.due("one that misses", helped.leastBid(0), NONE);
    }

    private static void leastBidOfNone() {
        Check.says(24, "with which this member would take the pot if this month went by now");
        SavingsCircle x = Check.circle("C10m100m100m100");
        x.month();
        Check.due("one that has taken the pot", x.leastBid(0), NONE);
        Check.due("the month's member", x.leastBid(1), 0);
        x.stayAway(1, true);
        Check.due("one that stays away", x.leastBid(1), NONE);
        Check.due("the next one then", x.leastBid(2), 0);
        x.bid(1, 9);
        Check.due("whom its bid does not hinder", x.leastBid(2), 0);
        x.leave(1);
        Check.due("one that has left", x.leastBid(1), NONE);
        Check.due("nor hinders that of one that has left", x.leastBid(2), 0);
        SavingsCircle poor = Check.circle("C10m009");
        Check.due("one that has a penny less than the contribution", poor.leastBid(0), NONE);
        poor.give(0, 1);
        Check.due("one that has just the contribution", poor.leastBid(0), 0);
    }

    private static void pillar() {
        Check.says(25, "Returns the member in the circle without whom (if it stayed away this month) the pot of this month would be smallest, among several the lowest one");
        Check.due("the lowest of equal ones", Check.circle("C10m010m010m010").pillar(), 0);
        Check.due("the lowest of those who pay", Check.circle("C10m009m010m010").pillar(), 1);
        Check.due("a guarantor who can pay twice", Check.circle("C10m100m000m020g12").pillar(), 2);
        Check.due("a guarantor who has one penny less", Check.circle("C10m100m000m019g12").pillar(), 0);
        Check.due("when all pay nothing", Check.circle("C10m009m009").pillar(), 0);
        SavingsCircle x = Check.circle("C10m100m100m000m000g20g30g01");
        Check.due("a guarantor of two, who is paid for itself", x.pillar(), 0);
        x.leave(0);
        Check.due("not one that has left", x.pillar(), 1);
        x.stayAway(1, true);
        Check.due("when nobody pays: the lowest in the circle", x.pillar(), 1);
    }

    private static void pillarOfNobody() {
        Check.says(25, "NONE if nobody is in the circle.");
        Check.due("no members", new SavingsCircle().pillar(), NONE);
        SavingsCircle x = Check.circle("C10m000m000");
        x.leave(0);
        Check.due("the last one", x.pillar(), 1);
        x.leave(1);
        Check.due("all have left", x.pillar(), NONE);
    }

    private static void when() {
        Check.says(26, "(bids and marks are those of now in the first one)");
        SavingsCircle x = Check.circle("C10" + "m900".repeat(8) + "b7001");
        Check.due("by its bid", x.when(7), 0);
        Check.due("the month's member", x.when(1), 1);
        Check.due("the last one of all", x.when(0), 7);
        for (int i = 0; i < 8; i++) {
            x.stayAway(i, true);
        }
        Check.due("marks and bids are gone in the second month", x.when(7), 7);
        Check.due("the month's member of the second month", x.when(1), 1);
        Check.due("the last one of all: the ninth month", x.when(0), 8);
    }

    private static void whenAsFar() {
        Check.says(26, "Returns the month in which this member would take it, if up to 20 months went by now, as far as month() can");
        for (int month = 92; month <= 99; month++) {
            SavingsCircle x = Check.circle("C50" + "m049".repeat(4));
            Check.months(x, month);
            x.setContribution(1);
            for (int k = 0; k < 4; k++) {
                int turn = (month + k) % 4;
                Check.due("in " + month + ": when(" + turn + ")", x.when(turn), month + k <= 98 ? month + k : NONE);
            }
        }
    }

    private static void whenNot() {
        Check.says(26, "NONE if it has taken it or would not.");
        SavingsCircle x = Check.circle("C10m100m009m100m009g12");
        x.month();
        Check.due("it has taken it", x.when(0), NONE);
        Check.due("it would, paid for by its guarantor", x.when(1), 1);
        Check.due("it would not: it cannot pay", x.when(3), NONE);
        x.give(3, 20);
        Check.due("it lacks one penny in the third month", x.when(3), NONE);
        x.give(3, 1);
        Check.due("it has just enough for the third month", x.when(3), 3);
        x.leave(2);
        Check.due("it has left", x.when(2), NONE);
        SavingsCircle y = Check.circle("C10m100");
        y.leave(0);
        Check.due("nobody is in the circle", y.when(0), NONE);
    }

    private static void inTheEnd() {
        Check.says(27, "Returns its purse when months have gone by until each member in the circle has taken the pot");
        for (int n = 1; n <= 8; n++) {
            SavingsCircle x = Check.circle("C10" + "m900".repeat(n));
            for (int i = 0; i < n; i++) {
                Check.due(n + " months: purse", x.inTheEnd(i), 900);
            }
            x.leave(n - 1);
            for (int i = 0; i < n - 1; i++) {
                Check.due(n - 1 + " months: purse", x.inTheEnd(i), 900);
            }
            Check.due("one that has left", x.inTheEnd(n - 1), 900);
        }
        SavingsCircle y = Check.circle("C10m900m900b1007");
        Check.due("bids are those of now in the first month", y.inTheEnd(0), 907);
        y.stayAway(1, true);
        Check.due("marks too", y.inTheEnd(0), 890 + 10 - 10);
    }

    /** 1 never can pay; so the first 20 months go by. */
    private static void inTheEndAfter20() {
        Check.says(27, "or 20 months have");
        SavingsCircle x = Check.circle("C10m500m009");
        Check.due("20 months, the first pot for itself", x.inTheEnd(0), 500 + 10 - 20 * 10);
        x.month();
        Check.due("20 months more", x.inTheEnd(0), 500 - 20 * 10);
        Check.due("the other one", x.inTheEnd(1), 9);
    }

    private static void inTheEndAsFar() {
        Check.says(27, "or month() cannot any more");
        for (int month = 77; month <= 99; month++) {
            SavingsCircle x = Check.circle("C01m500m000");
            Check.months(x, month);
            int purse = x.member(0, 0);
            Check.due("in " + month, x.inTheEnd(0), purse - Math.min(20, 99 - month));
        }
    }

    private static void inTheEndNow() {
        Check.says(27, "(now, if it is so now)");
        SavingsCircle x = Check.circle("C10m500m500");
        x.month();
        x.month();
        Check.due("each one has taken the pot", x.inTheEnd(0), 500);
        x.stayAway(0, true);
        x.setContribution(50);
        Check.due("whatever would come", x.inTheEnd(0), 500);
        x.addMember(9);
        Check.due("not each one", x.inTheEnd(1) == 500 ? 1 : 0, 0);
        x.leave(2);
        Check.due("the one that has not has left", x.inTheEnd(1), 500);
        SavingsCircle y = Check.circle("C10m500");
        y.leave(0);
        Check.due("nobody is in the circle", y.inTheEnd(0), 500);
    }

    private static void theyChangeNothing() {
        Check.says(0, "these and all following methods up to the save slots change nothing.");
        for (Supplier<SavingsCircle> making : Circles.all()) {
            int n = making.get().about(0);
            Check.leavesNoTrace("winner", Check.NOTHING, making, x -> x.winner());
            Check.leavesNoTrace("pot", Check.NOTHING, making, x -> x.pot());
            Check.leavesNoTrace("pillar", Check.NOTHING, making, x -> x.pillar());
            for (int k = 0; k < n; k++) {
                int i = k;
                Check.leavesNoTrace("change", Check.NOTHING, making, x -> x.change(i));
                Check.leavesNoTrace("leastBid", Check.NOTHING, making, x -> x.leastBid(i));
                Check.leavesNoTrace("when", Check.NOTHING, making, x -> x.when(i));
                Check.leavesNoTrace("inTheEnd", Check.NOTHING, making, x -> x.inTheEnd(i));
            }
        }
    }

    /** An answer does not depend on what was asked before, nor on a text that has been read, but not loaded. */
    private static void whatWasAskedBefore() {
        Check.says(0, "these and all following methods up to the save slots change nothing.");
        List<ToIntFunction<SavingsCircle>> questions = List.of(x -> x.winner(), x -> x.pot(), x -> x.pillar(),
            x -> x.runScript(3, 10001_70001_91000L), x -> x.simulate(7, 5),
            x -> x.change(0), x -> x.leastBid(0), x -> x.when(0), x -> x.inTheEnd(0));
        String[] texts = {"C01", "C01m001", "C50" + "m999".repeat(8) + "g70b7999"};
        for (Supplier<SavingsCircle> making : Circles.all()) {
            List<ToIntFunction<SavingsCircle>> possible = questions.subList(0, making.get().about(0) > 0 ? 9 : 5);
            for (ToIntFunction<SavingsCircle> question : possible) {
                int due = question.applyAsInt(making.get());
                for (ToIntFunction<SavingsCircle> before : possible) {
                    SavingsCircle x = making.get();
                    before.applyAsInt(x);
                    Check.due("after another question", question.applyAsInt(x), due);
                }
                for (String text : texts) {
                    SavingsCircle x = making.get();
                    Check.write(x, text);
                    Check.due("errorPosition", x.errorPosition(), NONE);
                    Check.due("after errorPosition of " + text, question.applyAsInt(x), due);
                }
            }
        }
    }
}
