/** Promise 7 give, with the debts that it answers and makes. */
public final class GiveTest {
    public static void main(String[] args) {
        Check check = new Check();
        aGiftIsAnsweredByMore(check);
        roundedUp(check);
        withoutCustomNoDebt(check);
        orderOfAnswers(check);
        onlyDebtsOfThatPair(check);
        mostOwed(check);
        customOfTheYear(check);
        oneDebtTooMany(check);
        moreOwedThanAnInt(check);
        fewerComesFirst(check);
        exceptions(check);
        check.end();
    }

    private static void aGiftIsAnsweredByMore(Check check) {
        FeastLedger x = Check.ledger(100, 50);
        Check.tell(x, "return 3/2 within 2;", 0);
        x.wait(3);
        check.same("give", 0, x.give(0, 1, 10));
        check.same("about(0, 0)", 90, x.about(0, 0));
        check.same("about(1, 0)", 60, x.about(1, 0));
        check.debt(x, 0, 1, 0, 15, 0, 5);
        check.same("a part answered", 6, x.give(1, 0, 6));
        check.debt(x, 0, 1, 0, 9, 0, 5);
        check.same("count(2)", 1, x.count(2));
        check.same("all answered", 9, x.give(1, 0, 9));
        check.debt(x, 0, 1, 0, 0, 0, 5);
        check.same("count(2)", 1, x.count(2));
        check.same("count(3)", 0, x.count(3));
        x.give(0, 1, 2);
        check.same("more than answered", 3, x.give(1, 0, 7));
        check.debt(x, 1, 1, 0, 0, 0, 5);
        check.debt(x, 2, 0, 1, 6, 0, 5);
        check.same("about(0, 0)", 110, x.about(0, 0));
        check.same("about(1, 0)", 40, x.about(1, 0));
        check.same("all that it has", 0, x.give(1, 0, 40));
        check.same("about(1, 0)", 0, x.about(1, 0));
    }

    private static void roundedUp(Check check) {
        FeastLedger x = Check.ledger(100, 100);
        Check.tell(x, "return 1/3 within 0;", 0);
        x.give(0, 1, 1);
        x.give(0, 1, 2);
        x.give(0, 1, 3);
        x.give(0, 1, 4);
        check.debt(x, 0, 1, 0, 1, 0, 0);
        check.debt(x, 1, 1, 0, 1, 0, 0);
        check.debt(x, 2, 1, 0, 1, 0, 0);
        check.debt(x, 3, 1, 0, 2, 0, 0);
    }

    private static void withoutCustomNoDebt(Check check) {
        FeastLedger x = Check.ledger(100, 100);
        check.same("without custom", 0, x.give(0, 1, 10));
        Check.tell(x, "loan 1/2;witness 5;", 0);
        check.same("without return", 0, x.give(0, 1, 10));
        Check.tell(x, "return 0/7 within 5;", 0);
        check.same("a return of 0", 0, x.give(0, 1, 10));
        check.same("count(2)", 0, x.count(2));
        check.same("about(0, 0)", 70, x.about(0, 0));
        check.same("fame(0)", 30, x.fame(0));
    }

    /** Gifts' by the year in which they are due, then by number; loans' behind them, by number. */
    private static void orderOfAnswers(Check check) {
        FeastLedger x = Check.ledger(100, 100);
        x.lend(0, 1, 1);
        Check.tell(x, "return 1/1 within 9;", 0);
        x.give(0, 1, 2);
        x.give(0, 1, 3);
        Check.tell(x, "return 1/1 within 4;", 0);
        x.give(0, 1, 4);
        x.lend(0, 1, 5);
        x.give(0, 1, 6);
        Check.tell(x, "return 1/1 within 0;", 0);
        x.wait(5);
        x.give(0, 1, 7);
        lefts(check, x, 1, 2, 3, 4, 5, 6, 7);
        check.same("answer", 1, x.give(1, 0, 1));
        lefts(check, x, 1, 2, 3, 3, 5, 6, 7);
        check.same("answer", 5, x.give(1, 0, 5));
        lefts(check, x, 1, 2, 3, 0, 5, 4, 7);
        check.same("answer", 4, x.give(1, 0, 4));
        lefts(check, x, 1, 2, 3, 0, 5, 0, 7);
        check.same("answer", 8, x.give(1, 0, 8));
        lefts(check, x, 1, 1, 3, 0, 5, 0, 0);
        check.same("answer", 3, x.give(1, 0, 3));
        lefts(check, x, 1, 0, 1, 0, 5, 0, 0);
        check.same("answer", 4, x.give(1, 0, 4));
        lefts(check, x, 0, 0, 0, 0, 3, 0, 0);
        check.same("answer", 3, x.give(1, 0, 13));
        lefts(check, x, 0, 0, 0, 0, 0, 0, 0, 10);
        check.debt(x, 7, 0, 1, 10, 0, 5);
    }

    private static void lefts(Check check, FeastLedger x, int... due) {
        check.same("count(2)", due.length, x.count(2));
        for (int i = 0; i < due.length; i++) {
            check.same("debt(" + i + ", 2)", due[i], x.debt(i, 2));
        }
    }

    private static void onlyDebtsOfThatPair(Check check) {
        FeastLedger x = Check.ledger(100, 100, 100);
        x.lend(0, 1, 10);
        x.lend(2, 1, 10);
        x.lend(0, 2, 10);
        check.same("to the one that owes", 0, x.give(0, 1, 5));
        check.same("just what it owes to that one", 10, x.give(1, 0, 10));
        lefts(check, x, 0, 10, 10);
        check.same("to a third", 10, x.give(1, 2, 30));
        lefts(check, x, 0, 0, 10);
        check.same("of a third", 0, x.give(1, 0, 5));
        lefts(check, x, 0, 0, 10);
    }

    private static void mostOwed(Check check) {
        FeastLedger x = Check.ledger(1_000_000, 1_000_000);
        Check.tell(x, "return 1000/1 within 1;", 0);
        x.give(0, 1, 999_999);
        check.same("debt(0, 2)", 999_999_000, x.debt(0, 2));
        FeastLedger y = Check.ledger(1_000_000, 1_000_000, 1_000_000, 1_000_000);
        y.give(1, 0, 1_000_000);
        y.give(2, 0, 1_000_000);
        y.give(3, 0, 1_000_000);
        Check.tell(y, "return 1000/1 within 1;", 0);
        y.give(0, 1, 1_000_001);
        check.same("debt(0, 2)", 1_000_000_000, y.debt(0, 2));
        y.give(0, 1, 2_999_999);
        check.same("debt(1, 2)", 1_000_000_000, y.debt(1, 2));
        // three such debts come to more than an int holds
        check.same("give", 0, y.give(1, 2, 1));
        check.same("give", 3_999_999, y.give(1, 0, 3_999_999));
        check.same("debt(0, 2)", 996_000_001, y.debt(0, 2));
    }

    private static void customOfTheYear(Check check) {
        FeastLedger x = Check.ledger(100, 100);
        Check.tell(x, "return 2/1 within 1;", 1);
        Check.tell(x, "return 3/1 within 1;", 2);
        check.same("year 0", 0, x.give(0, 1, 1));
        check.same("count(2)", 0, x.count(2));
        x.wait(1);
        x.give(0, 1, 1);
        check.debt(x, 0, 1, 0, 2, 0, 2);
        x.wait(1);
        x.give(0, 1, 1);
        check.debt(x, 1, 1, 0, 3, 0, 3);
    }

    private static void oneDebtTooMany(Check check) {
        FeastLedger x = Check.ledger(1000, 1000, 100);
        Check.tell(x, "return 1/1 within 1;", 0);
        Check.fillDebts(x, 399);
        check.same("the 400th", 0, x.give(2, 0, 1));
        check.same("count(2)", 400, x.count(2));
        String before = Check.state(x);
        check.same("one too many", -2, x.give(2, 0, 1));
        check.unchanged("give(2, 0, 1)", before, x);
        // 200 loans of 1 are owed by 1 to 0, 199 by 0 to 1
        check.same("answering a part makes none", 150, x.give(1, 0, 150));
        before = Check.state(x);
        check.same("one beyond what is owed", -2, x.give(1, 0, 51));
        check.unchanged("give(1, 0, 51)", before, x);
        check.same("just what is owed", 50, x.give(1, 0, 50));
        check.same("fewer is told first", -1, x.give(2, 0, 100));
        x.custom(0, 0);
        check.same("without return no debt", 0, x.give(2, 0, 1));
    }

    /** Three debts of 1,000,000,000 are more than what is given, however full the ledger is. */
    private static void moreOwedThanAnInt(Check check) {
        FeastLedger x = Check.ledger(1_000_000, 1_000_000, 1_000_000, 0);
        x.give(1, 0, 1_000_000);
        x.give(2, 0, 1_000_000);
        Check.tell(x, "return 1000/1 within 1;", 0);
        for (int i = 0; i < 3; i++) {
            check.same("give(0, 1, 999000)", 0, x.give(0, 1, 999_000));
        }
        Check.fillDebts(x, 400);
        check.same("give(1, 0, 2000000)", 2_000_000, x.give(1, 0, 2_000_000));
        check.same("give(1, 3, 1)", -2, x.give(1, 3, 1));
    }

    private static void fewerComesFirst(Check check) {
        FeastLedger x = Check.ledger(10, 10);
        Check.tell(x, "return 1/1 within 1;", 0);
        x.lend(1, 0, 2);
        String before = Check.state(x);
        check.same("one fewer", -1, x.give(0, 1, 13));
        check.same("far fewer", -1, x.give(0, 1, Integer.MAX_VALUE));
        check.unchanged("give", before, x);
        check.same("all", 2, x.give(0, 1, 12));
        check.same("none", -1, x.give(0, 1, 1));
    }

    private static void exceptions(Check check) {
        FeastLedger x = Check.ledger(10, 10, 10);
        check.index("give(-1, 0, 1)", () -> x.give(-1, 0, 1));
        check.index("give(0, -1, 1)", () -> x.give(0, -1, 1));
        check.index("give(3, 0, 1)", () -> x.give(3, 0, 1));
        check.index("give(0, 3, 1)", () -> x.give(0, 3, 1));
        check.index("give(12, 0, 1)", () -> x.give(12, 0, 1));
        check.index("give(0, MAX, 0)", () -> x.give(0, Integer.MAX_VALUE, 0));
        check.index("give(7, 7, 1)", () -> x.give(7, 7, 1));
        check.argument("give(0, 0, 1)", () -> x.give(0, 0, 1));
        check.argument("give(0, 1, 0)", () -> x.give(0, 1, 0));
        check.argument("give(0, 1, -1)", () -> x.give(0, 1, -1));
        check.argument("give(0, 1, MIN)", () -> x.give(0, 1, Integer.MIN_VALUE));
        x.died(2, 0);
        String before = Check.state(x);
        check.state("give(2, 0, 1)", () -> x.give(2, 0, 1));
        check.state("give(0, 2, 1)", () -> x.give(0, 2, 1));
        check.state("give(0, 2, 100)", () -> x.give(0, 2, 100));
        check.argument("give(2, 0, 0)", () -> x.give(2, 0, 0));
        check.argument("give(2, 2, 1)", () -> x.give(2, 2, 1));
        check.index("give(2, 3, 1)", () -> x.give(2, 3, 1));
        check.unchanged("give", before, x);
    }
}
