/** Promises 8 lend, 15 wait, 16 debt, 17 late. */
public final class LoanTest {
    public static void main(String[] args) {
        Check check = new Check();
        aLoan(check);
        lendingAnswersNothing(check);
        fourHundred(check);
        lendExceptions(check);
        growth(check);
        growthByTheYearThatEnds(check);
        mostOwed(check);
        yearsGoBy(check);
        debt(check);
        late(check);
        check.end();
    }

    private static void aLoan(Check check) {
        FeastLedger x = Check.ledger(10, 20);
        check.same("lend", 0, x.lend(0, 1, 4));
        check.same("about(0, 0)", 6, x.about(0, 0));
        check.same("about(1, 0)", 24, x.about(1, 0));
        check.debt(x, 0, 1, 0, 4, 1, -1);
        check.same("lend all", 1, x.lend(0, 1, 6));
        String before = Check.state(x);
        check.same("fewer", -1, x.lend(0, 1, 1));
        check.same("far fewer", -1, x.lend(1, 0, Integer.MAX_VALUE));
        check.unchanged("lend", before, x);
    }

    private static void lendingAnswersNothing(Check check) {
        FeastLedger x = Check.ledger(10, 10);
        Check.tell(x, "return 2/1 within 3;", 0);
        x.give(0, 1, 3);
        check.same("lend", 1, x.lend(1, 0, 5));
        check.debt(x, 0, 1, 0, 6, 0, 3);
        check.debt(x, 1, 0, 1, 5, 1, -1);
        check.same("count(2)", 2, x.count(2));
        check.same("fame(1)", 0, x.fame(1));
    }

    private static void fourHundred(Check check) {
        FeastLedger x = Check.ledger(500, 500);
        Check.fillDebts(x, 399);
        check.same("the 400th", 399, x.lend(0, 1, 1));
        check.debt(x, 399, 1, 0, 1, 1, -1);
        String before = Check.state(x);
        check.same("one too many", -2, x.lend(0, 1, 1));
        check.same("fewer is told first", -1, x.lend(0, 1, 5000));
        check.unchanged("lend", before, x);
        x.give(0, 1, 200);
        check.same("answered ones count too", -2, x.lend(0, 1, 1));
    }

    private static void lendExceptions(Check check) {
        FeastLedger x = Check.ledger(10, 10, 10);
        x.died(2, 0);
        String before = Check.state(x);
        check.index("lend(-1, 0, 1)", () -> x.lend(-1, 0, 1));
        check.index("lend(0, -1, 1)", () -> x.lend(0, -1, 1));
        check.index("lend(3, 0, 1)", () -> x.lend(3, 0, 1));
        check.index("lend(0, 3, 0)", () -> x.lend(0, 3, 0));
        check.argument("lend(1, 1, 1)", () -> x.lend(1, 1, 1));
        check.argument("lend(0, 1, 0)", () -> x.lend(0, 1, 0));
        check.argument("lend(2, 1, -5)", () -> x.lend(2, 1, -5));
        check.state("lend(2, 0, 1)", () -> x.lend(2, 0, 1));
        check.state("lend(0, 2, 1)", () -> x.lend(0, 2, 1));
        check.unchanged("lend", before, x);
    }

    private static void growth(Check check) {
        FeastLedger x = Check.ledger(100, 100);
        Check.tell(x, "return 1/1 within 9;loan 1/10;", 0);
        x.lend(0, 1, 10);
        x.lend(0, 1, 9);
        x.lend(1, 0, 25);
        x.give(0, 1, 26);
        x.lend(1, 0, 30);
        int[][] due = {{11, 9, 0, 1, 33}, {12, 9, 0, 1, 36}, {13, 9, 0, 1, 39}};
        for (int year = 0; year < due.length; year++) {
            x.wait(1);
            for (int i = 0; i < 5; i++) {
                check.same("debt(" + i + ", 2) in " + (year + 1), due[year][i], x.debt(i, 2));
            }
        }
        x.wait(4);
        check.same("debt(0, 2) in 7", 17, x.debt(0, 2));
        x.give(1, 0, 10);
        // the gift's debt of 1 is answered first
        check.same("debt(0, 2)", 8, x.debt(0, 2));
        x.wait(10);
        check.same("debt(0, 2) in 17", 8, x.debt(0, 2));
    }

    private static void growthByTheYearThatEnds(Check check) {
        FeastLedger x = Check.ledger(100, 100);
        Check.tell(x, "loan 1/1;", 1);
        Check.tell(x, "loan 2/1;", 2);
        Check.tell(x, "witness 1;", 3);
        Check.tell(x, "loan 0/5;", 4);
        Check.tell(x, "loan 1/2;", 5);
        x.lend(0, 1, 10);
        int[] due = {10, 20, 60, 60, 60, 90};
        for (int year = 0; year < due.length; year++) {
            x.wait(1);
            check.same("debt(0, 2) in " + (year + 1), due[year], x.debt(0, 2));
        }
        FeastLedger y = Check.ledger(100, 100);
        Check.tell(y, "loan 1/1;", 1);
        Check.tell(y, "witness 1;", 3);
        y.lend(0, 1, 10);
        y.wait(100);
        check.same("all years at once", 40, y.debt(0, 2));
    }

    private static void mostOwed(Check check) {
        FeastLedger x = Check.ledger(1_000_000, 0);
        Check.tell(x, "loan 999/1;", 0);
        x.lend(0, 1, 999_999);
        x.wait(1);
        check.same("debt(0, 2)", 999_999_000, x.debt(0, 2));
        x.wait(1);
        check.same("debt(0, 2)", 1_000_000_000, x.debt(0, 2));
        x.wait(100);
        check.same("debt(0, 2)", 1_000_000_000, x.debt(0, 2));
        Check.tell(x, "loan 1000/1;", 0);
        x.wait(1);
        check.same("debt(0, 2)", 1_000_000_000, x.debt(0, 2));
        x.give(1, 0, 1);
        check.same("debt(0, 2)", 999_999_999, x.debt(0, 2));
    }

    private static void yearsGoBy(Check check) {
        FeastLedger x = new FeastLedger();
        check.same("wait(0)", 0, x.wait(0));
        check.same("wait(1)", 1, x.wait(1));
        check.argument("wait(-1)", () -> x.wait(-1));
        check.argument("wait(101)", () -> x.wait(101));
        check.argument("wait(MIN)", () -> x.wait(Integer.MIN_VALUE));
        check.argument("wait(MAX)", () -> x.wait(Integer.MAX_VALUE));
        check.same("count(5)", 1, x.count(5));
        for (int year = 101; year < 1000; year += 100) {
            check.same("wait(100)", year, x.wait(100));
        }
        check.argument("wait(100) beyond 1000", () -> x.wait(100));
        check.same("count(5)", 901, x.count(5));
        check.same("wait(99)", 1000, x.wait(99));
        check.argument("wait(1) beyond 1000", () -> x.wait(1));
        check.same("wait(0)", 1000, x.wait(0));
        check.same("count(5)", 1000, x.count(5));
    }

    private static void debt(Check check) {
        FeastLedger x = Check.ledger(10, 10, 10);
        Check.tell(x, "return 2/1 within 1000;", 0);
        for (int i = 0; i < 10; i++) {
            x.wait(100);
        }
        x.give(2, 1, 5);
        x.lend(1, 0, 4);
        check.debt(x, 0, 1, 2, 10, 0, 2000);
        check.debt(x, 1, 0, 1, 4, 1, -1);
        check.index("debt(-1, 0)", () -> x.debt(-1, 0));
        check.index("debt(2, 0)", () -> x.debt(2, 0));
        check.index("debt(400, 0)", () -> x.debt(400, 0));
        check.index("debt(2, 9)", () -> x.debt(2, 9));
        check.argument("debt(0, -1)", () -> x.debt(0, -1));
        check.argument("debt(0, 5)", () -> x.debt(0, 5));
    }

    private static void late(Check check) {
        FeastLedger x = Check.ledger(100, 100, 100);
        Check.tell(x, "return 1/1 within 2;", 0);
        Check.tell(x, "return 1/1 within 0;", 1);
        x.give(0, 1, 1);
        x.lend(0, 1, 1);
        x.give(0, 2, 1);
        x.wait(1);
        x.give(0, 2, 2);
        lates(check, x);
        x.wait(1);
        lates(check, x, 3);
        x.wait(1);
        lates(check, x, 0, 2, 3);
        check.same("late(-1)", -1, x.late(-1));
        check.same("late(MIN)", -1, x.late(Integer.MIN_VALUE));
        check.same("late(MAX)", -1, x.late(Integer.MAX_VALUE));
        // of what 2 owes to 0 the one due in the year 1 comes first
        x.give(2, 0, 1);
        lates(check, x, 0, 2, 3);
        x.give(2, 0, 1);
        lates(check, x, 0, 2);
        x.give(2, 0, 1);
        lates(check, x, 0);
        x.wait(90);
        lates(check, x, 0);
        x.died(1, 0);
        lates(check, x);
    }

    private static void lates(Check check, FeastLedger x, int... due) {
        for (int k = 0; k < due.length; k++) {
            check.same("late(" + k + ")", due[k], x.late(k));
        }
        check.same("late behind all", -1, x.late(due.length));
    }
}
