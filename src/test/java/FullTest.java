/** A ledger that holds as much as it may: each call still answers, at the last row too. */
public final class FullTest {
    private static final Check CHECK = new Check();
    private static final int LAST = 11;

    public static void main(String[] args) {
        CHECK.sentence("CHIEFS, 12 at most, CUSTOMS, 20 at most, DEBTS, 400 at most, COPPERS, 30 at most");
        counts(full());
        gathers(full());
        Ledger x = full();
        years(x);
        answers(x);
        heirs(x);
        nothingMore(x);
        refusals();
        CHECK.end();
    }

    /** Gifts of chief 0 to all others, 398 in all, then a gift and a loan of the last chief to 3. */
    private static Ledger full() {
        Ledger x = new Ledger();
        for (int i = 0; i <= LAST; i++) {
            x.chief(1000);
        }
        Tape.tell(x, "return 1/1 within 0;", 0);
        for (int i = 0; i < 36; i++) {
            x.feast(0, 0xFFE, 1, 0);
        }
        x.give(0, 1, 1);
        x.give(0, 2, 1);
        for (int year = 1; year < 19; year++) {
            x.custom(0, year);
        }
        Tape.tell(x, "return 2/1 within 0;loan 1/1;witness 3;", 0);
        x.give(LAST, 3, 10);
        x.lend(LAST, 3, 10);
        for (int i = 0; i < 30; i++) {
            x.copper(i == 29 ? LAST : 0, 8);
        }
        return x;
    }

    private static void counts(Ledger x) {
        int[] due = {12, 20, 400, 400, 30, 0, 0};
        for (int what = 0; what < due.length; what++) {
            CHECK.same("count(" + what + ")", due[what], x.count(what));
        }
        CHECK.debt(x, 0, 1, 0, 1, 0, 0);
        CHECK.debt(x, 395, LAST, 0, 1, 0, 0);
        CHECK.debt(x, 397, 2, 0, 1, 0, 0);
        CHECK.debt(x, 398, 3, LAST, 20, 0, 0);
        CHECK.debt(x, 399, 3, LAST, 10, 1, -1);
        CHECK.same("force(0)", 19, x.force(0));
        CHECK.same("force(18)", 18, x.force(18));
    }

    private static void gathers(Ledger x) {
        CHECK.same("gather(11, -1)", 1026, x.gather(LAST, -1));
        CHECK.same("gather(11, 0)", 1046, x.gather(LAST, 0));
        CHECK.same("hold(11, 0)", 1 << LAST, x.hold(LAST, 0));
        CHECK.same("gather(0, -1)", 602, x.gather(0, -1));
        CHECK.same("gather(0, 0)", 1000, x.gather(0, 0));
        CHECK.same("hold(0, 0)", 1, x.hold(0, 0));
    }

    private static void years(Ledger x) {
        CHECK.same("late(0) in 0", -1, x.late(0));
        CHECK.same("wait(1)", 1, x.wait(1));
        CHECK.same("debt(399, 2)", 20, x.debt(399, 2));
        CHECK.same("late(0)", 0, x.late(0));
        CHECK.same("late(398)", 398, x.late(398));
        CHECK.same("late(399)", -1, x.late(399));
        CHECK.same("about(0, 2)", 0, x.about(0, 2));
        CHECK.same("about(11, 2)", 1, x.about(LAST, 2));
        CHECK.same("about(1, 2)", 2, x.about(1, 2));
        CHECK.same("about(10, 2)", 11, x.about(10, 2));
    }

    private static void answers(Ledger x) {
        // the years from 1 on have customs without a return, so what is left makes no debt
        CHECK.same("give(3, 11, 25)", 25, x.give(3, LAST, 25));
        CHECK.debt(x, 398, 3, LAST, 0, 0, 0);
        CHECK.debt(x, 399, 3, LAST, 15, 1, -1);
        CHECK.same("give(1, 0, 38)", 37, x.give(1, 0, 38));
        CHECK.same("feast", 11, x.feast(5, 0xFDF, 1, 0));
        CHECK.same("count(3)", 361, x.count(3));
    }

    private static void heirs(Ledger x) {
        // 36 gifts of 0 to it, and its loan to 3
        CHECK.same("died(11, 10)", 37, x.died(LAST, 10));
        CHECK.debt(x, 395, 10, 0, 1, 0, 0);
        CHECK.debt(x, 399, 3, 10, 15, 1, -1);
        CHECK.same("copperTold(29, 0)", 10, x.copperTold(29, 0));
        CHECK.state("pass(29, 11)", () -> x.pass(29, LAST));
        CHECK.same("hold(11, 0)", -1, x.hold(LAST, 0));
        CHECK.same("died(0, 1)", 360, x.died(0, 1));
        CHECK.same("count(3)", 361, x.count(3));
    }

    private static void nothingMore(Ledger x) {
        CHECK.state("chief(1)", () -> x.chief(1));
        CHECK.state("custom(0, 0)", () -> x.custom(0, 0));
        CHECK.state("copper(1, 1)", () -> x.copper(1, 1));
        CHECK.same("lend(1, 2, 1)", -2, x.lend(1, 2, 1));
    }

    private static void refusals() {
        CHECK.refusedByState("chief(1)", FullTest::full, x -> x.chief(1));
        CHECK.refusedByState("custom(0, 0)", FullTest::full, x -> x.custom(0, 0));
        CHECK.refusedByState("copper(0, 1)", FullTest::full, x -> x.copper(0, 1));
        CHECK.refused("lend(0, 1, 1)", -2, FullTest::full, x -> x.lend(0, 1, 1));
        CHECK.refused("give(0, 1, 1)", -2, FullTest::full, x -> x.give(0, 1, 1));
        CHECK.refused("pass(0, 1)", -2, FullTest::full, x -> x.pass(0, 1));
        CHECK.refused("feast(5, 64, 1, 0)", -2, FullTest::full, x -> x.feast(5, 64, 1, 0));
    }
}
