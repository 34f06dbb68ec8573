/** A ledger that holds as much as it may: each call still answers, at the last row too. */
public final class FullTest {
    private static final int LAST = 11;

    public static void main(String[] args) {
        Check check = new Check();
        FeastLedger x = full();
        counts(check, x);
        gathers(check, x);
        years(check, x);
        answers(check, x);
        heirs(check, x);
        nothingMore(check, x);
        check.end();
    }

    /** 398 loans of 1 between 0 and 1, then a gift and a loan of the last chief to 2. */
    private static FeastLedger full() {
        FeastLedger x = new FeastLedger();
        for (int i = 0; i <= LAST; i++) {
            x.chief(1000);
        }
        for (int i = 0; i < 19; i++) {
            x.custom(0, i);
        }
        Check.fillDebts(x, 398);
        for (int i = 0; i < 30; i++) {
            x.copper(i == 29 ? LAST : 0, 8);
        }
        Check.tell(x, "return 2/1 within 0;loan 1/1;witness 3;", 0);
        x.give(LAST, 2, 10);
        x.lend(LAST, 2, 10);
        return x;
    }

    private static void counts(Check check, FeastLedger x) {
        int[] due = {12, 20, 400, 400, 30, 0, 0};
        for (int what = 0; what < due.length; what++) {
            check.same("count(" + what + ")", due[what], x.count(what));
        }
        check.debt(x, 398, 2, LAST, 20, 0, 0);
        check.debt(x, 399, 2, LAST, 10, 1, -1);
        check.index("debt(400, 0)", () -> x.debt(400, 0));
        check.index("copperTold(30, 0)", () -> x.copperTold(30, 0));
        check.index("about(12, 0)", () -> x.about(12, 0));
    }

    private static void gathers(Check check, FeastLedger x) {
        check.same("gather(11, -1)", 990, x.gather(LAST, -1));
        check.same("gather(11, 0)", 1010, x.gather(LAST, 0));
        check.same("hold(11, 0)", 1 << LAST, x.hold(LAST, 0));
        check.same("gather(0, 0)", 1199, x.gather(0, 0));
    }

    private static void years(Check check, FeastLedger x) {
        check.same("late(0)", -1, x.late(0));
        check.same("wait(1)", 1, x.wait(1));
        check.same("debt(0, 2)", 2, x.debt(0, 2));
        check.same("debt(399, 2)", 20, x.debt(399, 2));
        check.same("late(0)", 398, x.late(0));
        check.same("late(1)", -1, x.late(1));
        check.same("about(11, 2)", 0, x.about(LAST, 2));
        check.same("about(10, 2)", 11, x.about(10, 2));
    }

    private static void answers(Check check, FeastLedger x) {
        // the years from 1 on have customs without a return
        check.same("give(2, 11, 25)", 25, x.give(2, LAST, 25));
        check.debt(x, 398, 2, LAST, 0, 0, 0);
        check.debt(x, 399, 2, LAST, 15, 1, -1);
        check.same("give(0, 1, 397)", 397, x.give(0, 1, 397));
        check.same("feast", 11, x.feast(5, 0xFDF, 1, 0));
    }

    private static void heirs(Check check, FeastLedger x) {
        check.same("died(11, 10)", 1, x.died(LAST, 10));
        check.debt(x, 399, 2, 10, 15, 1, -1);
        check.same("copperTold(29, 0)", 10, x.copperTold(29, 0));
        check.state("pass(29, 11)", () -> x.pass(29, LAST));
        check.same("hold(11, 0)", -1, x.hold(LAST, 0));
        check.same("died(0, 1)", 0, x.died(0, 1));
        check.same("count(3)", 1, x.count(3));
    }

    private static void nothingMore(Check check, FeastLedger x) {
        check.state("chief(1)", () -> x.chief(1));
        check.state("custom(0, 0)", () -> x.custom(0, 0));
        check.state("copper(1, 1)", () -> x.copper(1, 1));
        check.same("lend(1, 2, 1)", -2, x.lend(1, 2, 1));
    }
}
