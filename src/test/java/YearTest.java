/** Promise 15 wait, with what a YEAR's end does to loans. */
public final class YearTest {
    private static final Check CHECK = new Check();

    public static void main(String[] args) {
        growth();
        cut();
        onlyLoans();
        yearThatEnds();
        mostOwed();
        yearsGoBy();
        notZeroToHundred();
        aboveThousand();
        CHECK.end();
    }

    /** In the year 901, with a loan that would grow. */
    private static Ledger late() {
        Ledger x = Ledger.of(100, 100);
        x.lend(0, 1, 10);
        for (int i = 0; i < 9; i++) {
            x.wait(100);
        }
        x.wait(1);
        Tape.tell(x, "loan 1/1;", 0);
        return x;
    }

    private static void growth() {
        CHECK.sentence("When a YEAR ends what is left of each loan's DEBT grows by that times p by q");
        Ledger x = Ledger.of(100, 100, 100);
        Tape.tell(x, "loan 3/2;", 0);
        x.lend(0, 1, 10);
        x.lend(2, 0, 20);
        CHECK.lefts(x, 10, 20);
        x.wait(1);
        CHECK.lefts(x, 25, 50);
        x.give(1, 0, 5);
        x.wait(1);
        CHECK.lefts(x, 50, 125);
        x.wait(0);
        CHECK.lefts(x, 50, 125);
    }

    private static void cut() {
        CHECK.sentence("When a YEAR ends ..: grows by that times p by q, cut");
        Ledger x = Ledger.of(100, 100);
        Tape.tell(x, "loan 1/10;", 0);
        x.lend(0, 1, 9);
        x.lend(0, 1, 10);
        x.lend(0, 1, 19);
        x.lend(0, 1, 20);
        x.wait(1);
        CHECK.lefts(x, 9, 11, 20, 22);
        x.wait(7);
        // 11 12 13 14 15 16 17 18; 20 22 24 26 28 30 33 36; 22 24 26 28 30 33 36 39
        CHECK.lefts(x, 9, 18, 36, 39);
        Tape.tell(x, "loan 999/1000;", 0);
        x.give(1, 0, 8);
        x.wait(1);
        CHECK.lefts(x, 1, 35, 71, 77);
    }

    private static void onlyLoans() {
        CHECK.sentence("When a YEAR ends what is left of each loan's DEBT grows, no other one");
        Ledger x = Ledger.of(100, 100);
        Tape.tell(x, "return 1/1 within 9;loan 1/1;", 0);
        x.give(0, 1, 10);
        x.lend(1, 0, 5);
        x.give(0, 1, 5);
        x.lend(1, 0, 5);
        CHECK.lefts(x, 10, 0, 5);
        x.wait(2);
        CHECK.lefts(x, 10, 0, 20);
    }

    private static void yearThatEnds() {
        CHECK.sentence("When a YEAR ends ..: by the CUSTOM in force in the YEAR that ends");
        Ledger x = Ledger.of(100, 100);
        Tape.tell(x, "loan 1/1;", 1);
        Tape.tell(x, "loan 2/1;", 2);
        Tape.tell(x, "witness 1;", 3);
        Tape.tell(x, "loan 0/5;", 4);
        Tape.tell(x, "loan 1/2;", 5);
        x.lend(0, 1, 10);
        int[] due = {10, 20, 60, 60, 60, 90};
        for (int year = 0; year < due.length; year++) {
            x.wait(1);
            CHECK.same("debt(0, 2) in " + (year + 1), due[year], x.debt(0, 2));
        }
        Ledger y = Ledger.of(100, 100);
        Tape.tell(y, "loan 1/1;", 1);
        Tape.tell(y, "witness 1;", 3);
        y.lend(0, 1, 10);
        y.wait(100);
        CHECK.same("all years at once", 40, y.debt(0, 2));
    }

    private static void mostOwed() {
        CHECK.sentence("When a YEAR ends ..: it is 1,000,000,000 at most");
        grown("loan 999/1;", 999_999, 999_999_000);
        grown("loan 999/1;", 1_000_000, 1_000_000_000);
        grown("loan 1000/1;", 999_000, 999_999_000);
        grown("loan 1000/1;", 999_001, 1_000_000_000);
        grown("loan 1000/1;", 1_000_000, 1_000_000_000);
        Ledger x = Ledger.of(1_000_000, 0);
        Tape.tell(x, "loan 1000/1;", 0);
        x.lend(0, 1, 1_000_000);
        x.wait(100);
        CHECK.same("a hundred years", 1_000_000_000, x.debt(0, 2));
        x.give(1, 0, 1);
        CHECK.same("1 less", 999_999_999, x.debt(0, 2));
        Tape.tell(x, "loan 1/999;", 0);
        x.wait(1);
        CHECK.same("just above", 1_000_000_000, x.debt(0, 2));
    }

    private static void grown(String text, int loan, int due) {
        Ledger x = Ledger.of(1_000_000, 0);
        Tape.tell(x, text, 0);
        x.lend(0, 1, loan);
        x.wait(1);
        CHECK.same(text + " a loan of " + loan, due, x.debt(0, 2));
    }

    private static void yearsGoBy() {
        CHECK.sentence("Promise 15: a YEAR goes by, n times: the YEAR");
        Ledger x = Ledger.of(100, 100);
        Tape.tell(x, "loan 1/1;", 0);
        x.lend(0, 1, 1);
        CHECK.same("wait(0)", 0, x.wait(0));
        CHECK.same("debt(0, 2)", 1, x.debt(0, 2));
        CHECK.same("wait(1)", 1, x.wait(1));
        CHECK.same("debt(0, 2)", 2, x.debt(0, 2));
        CHECK.same("wait(5)", 6, x.wait(5));
        CHECK.same("debt(0, 2)", 64, x.debt(0, 2));
        CHECK.same("count(5)", 6, x.count(5));
    }

    private static void notZeroToHundred() {
        CHECK.sentence("Promise 15: IllegalArgumentException: n is not 0 to 100");
        CHECK.refusedByArgument("wait(-1)", Ledger::new, x -> x.wait(-1));
        CHECK.refusedByArgument("wait(101)", Ledger::new, x -> x.wait(101));
        CHECK.refusedByArgument("wait(MIN)", Ledger::new, x -> x.wait(Integer.MIN_VALUE));
        CHECK.refusedByArgument("wait(MAX)", Ledger::new, x -> x.wait(Integer.MAX_VALUE));
        CHECK.refusedByArgument("wait(-1) in 901", YearTest::late, x -> x.wait(-1));
        CHECK.refusedByArgument("wait(MAX) in 901", YearTest::late, x -> x.wait(Integer.MAX_VALUE));
        CHECK.same("wait(0)", 0, new Ledger().wait(0));
        CHECK.same("wait(100)", 100, new Ledger().wait(100));
    }

    private static void aboveThousand() {
        CHECK.sentence("Promise 15: IllegalArgumentException: or it would be above 1,000");
        CHECK.refusedByArgument("wait(100) in 901", YearTest::late, x -> x.wait(100));
        Ledger x = late();
        CHECK.same("wait(99) in 901", 1000, x.wait(99));
        CHECK.argument("wait(1) in 1000", () -> x.wait(1));
        CHECK.argument("wait(100) in 1000", () -> x.wait(100));
        CHECK.same("wait(0) in 1000", 1000, x.wait(0));
        CHECK.same("count(5)", 1000, x.count(5));
        Ledger y = late();
        y.wait(1);
        y.wait(97);
        CHECK.same("count(5)", 999, y.count(5));
        CHECK.argument("wait(2) in 999", () -> y.wait(2));
        CHECK.same("wait(1) in 999", 1000, y.wait(1));
    }
}
