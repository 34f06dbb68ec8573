/** Promises 16 debt, 17 late. */
public final class DebtTest {
    private static final Check CHECK = new Check();

    public static void main(String[] args) {
        told();
        answeredOrGone();
        noSuchDebt();
        anotherWhat();
        behindTheYear();
        somethingIsLeft();
        noLoans();
        kTh();
        CHECK.end();
    }

    private static Ledger two() {
        Ledger x = Ledger.of(10, 10, 10);
        Tape.tell(x, "return 2/1 within 7;", 0);
        x.give(2, 1, 5);
        x.lend(1, 0, 4);
        return x;
    }

    private static Ledger full() {
        return Ledger.of(500, 500).fillDebts(400);
    }

    private static void told() {
        CHECK.sentence("Promise 16: 0 who owes, 1 to whom, 2 how much is left, 3 its kind, 4 the YEAR in"
                + " which it is due (NONE of loans)");
        Ledger x = two();
        CHECK.debt(x, 0, 1, 2, 10, 0, 7);
        CHECK.debt(x, 1, 0, 1, 4, 1, -1);
    }

    private static void answeredOrGone() {
        CHECK.sentence("Promise 16: 2 how much is left (0: answered, or gone)");
        Ledger x = two();
        x.give(1, 2, 9);
        CHECK.same("1 is left", 1, x.debt(0, 2));
        x.give(1, 2, 1);
        CHECK.debt(x, 0, 1, 2, 0, 0, 7);
        x.died(1, 0);
        CHECK.same("gone", 0, x.debt(1, 2));
        CHECK.same("the kind of what is gone", 1, x.debt(1, 3));
        CHECK.same("the year of what is gone", -1, x.debt(1, 4));
    }

    private static void noSuchDebt() {
        CHECK.sentence("Promise 16: IndexOutOfBoundsException: no such DEBT");
        CHECK.refusedByIndex("debt(0, 0), there being none", Ledger::new, x -> x.debt(0, 0));
        CHECK.refusedByIndex("debt(-1, 0)", DebtTest::two, x -> x.debt(-1, 0));
        CHECK.refusedByIndex("debt(2, 0)", DebtTest::two, x -> x.debt(2, 0));
        CHECK.refusedByIndex("debt(2, 5)", DebtTest::two, x -> x.debt(2, 5));
        CHECK.refusedByIndex("debt(MIN, 0)", DebtTest::two, x -> x.debt(Integer.MIN_VALUE, 0));
        CHECK.refusedByIndex("debt(MAX, 0)", DebtTest::two, x -> x.debt(Integer.MAX_VALUE, 0));
        CHECK.refusedByIndex("debt(400, 0)", DebtTest::full, x -> x.debt(400, 0));
        CHECK.debt(full(), 399, 0, 1, 1, 1, -1);
        CHECK.debt(full(), 0, 1, 0, 1, 1, -1);
    }

    private static void anotherWhat() {
        CHECK.sentence("Promise 16: IllegalArgumentException: another what");
        CHECK.refusedByArgument("debt(0, -1)", DebtTest::two, x -> x.debt(0, -1));
        CHECK.refusedByArgument("debt(0, 5)", DebtTest::two, x -> x.debt(0, 5));
        CHECK.refusedByArgument("debt(0, MIN)", DebtTest::two, x -> x.debt(0, Integer.MIN_VALUE));
        CHECK.refusedByArgument("debt(0, MAX)", DebtTest::two, x -> x.debt(0, Integer.MAX_VALUE));
    }

    private static void lates(Ledger x, int... due) {
        for (int k = 0; k < due.length; k++) {
            CHECK.same("late(" + k + ")", due[k], x.late(k));
        }
        CHECK.same("late behind all", -1, x.late(due.length));
    }

    private static void behindTheYear() {
        CHECK.sentence("Promise 17: behind the YEAR in which it is due");
        Ledger x = Ledger.of(100, 100);
        Tape.tell(x, "return 1/1 within 2;", 0);
        Tape.tell(x, "return 1/1 within 0;", 1);
        x.give(0, 1, 1);
        lates(x);
        x.wait(1);
        x.give(0, 1, 1);
        lates(x);
        x.wait(1);
        // due in this very year is not behind it
        lates(x, 1);
        x.wait(1);
        lates(x, 0, 1);
        x.wait(100);
        lates(x, 0, 1);
    }

    private static void somethingIsLeft() {
        CHECK.sentence("Promise 17: of which something is left");
        Ledger x = Ledger.of(100, 100, 100);
        Tape.tell(x, "return 1/1 within 0;", 0);
        x.give(0, 1, 2);
        x.give(0, 2, 2);
        x.give(1, 2, 2);
        x.wait(1);
        lates(x, 0, 1, 2);
        x.give(2, 0, 1);
        lates(x, 0, 1, 2);
        x.give(2, 0, 1);
        lates(x, 0, 2);
        x.died(1, 0);
        lates(x, 2);
        x.died(0, 2);
        lates(x);
    }

    private static void noLoans() {
        CHECK.sentence("Promise 17: a gift's DEBT");
        Ledger x = Ledger.of(100, 100);
        Tape.tell(x, "return 1/1 within 0;", 0);
        x.lend(0, 1, 1);
        x.give(0, 1, 1);
        x.lend(0, 1, 1);
        lates(x);
        x.wait(1);
        lates(x, 1);
    }

    private static Ledger threeLate() {
        Ledger x = Ledger.of(100, 100);
        Tape.tell(x, "return 1/1 within 3;", 0);
        x.give(0, 1, 1);
        Tape.tell(x, "return 1/1 within 0;", 0);
        x.give(0, 1, 1);
        x.give(0, 1, 1);
        x.wait(10);
        return x;
    }

    private static void kTh() {
        CHECK.sentence("Promise 17: the k-th gift's DEBT, by number; NONE");
        Ledger x = threeLate();
        // by number, not by the year in which they are due
        lates(x, 0, 1, 2);
        CHECK.same("late(0), there being none", -1, new Ledger().late(0));
        CHECK.refused("late(3)", -1, DebtTest::threeLate, y -> y.late(3));
        CHECK.refused("late(-1)", -1, DebtTest::threeLate, y -> y.late(-1));
        CHECK.refused("late(MIN)", -1, DebtTest::threeLate, y -> y.late(Integer.MIN_VALUE));
        CHECK.refused("late(MAX)", -1, DebtTest::threeLate, y -> y.late(Integer.MAX_VALUE));
    }
}
