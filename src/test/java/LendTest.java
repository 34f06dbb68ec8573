/** Promise 8 lend. */
public final class LendTest {
    private static final Check CHECK = new Check();

    public static void main(String[] args) {
        itsDebt();
        notGiven();
        itHasFewer();
        oneDebtTooMany();
        fourHundredInAll();
        theFirstOfThese();
        noSuchChief();
        bothAreOne();
        belowOne();
        oneDied();
        CHECK.end();
    }

    private static Ledger three() {
        Ledger x = Ledger.of(10, 20, 30);
        x.lend(0, 1, 4);
        return x;
    }

    private static Ledger withADead() {
        Ledger x = three();
        x.died(2, 1);
        return x;
    }

    private static Ledger full() {
        return Ledger.of(500, 500).fillDebts(400);
    }

    private static void itsDebt() {
        CHECK.sentence("Promise 8: a loan: its DEBT");
        Ledger x = Ledger.of(10, 20);
        CHECK.same("lend(0, 1, 4)", 0, x.lend(0, 1, 4));
        CHECK.blankets(x, 6, 24);
        CHECK.debt(x, 0, 1, 0, 4, 1, -1);
        CHECK.same("lend(1, 0, 24)", 1, x.lend(1, 0, 24));
        CHECK.blankets(x, 30, 0);
        CHECK.debt(x, 1, 0, 1, 24, 1, -1);
    }

    private static void notGiven() {
        CHECK.sentence("A loan of n is a DEBT of n");
        Ledger x = Ledger.of(10, 10);
        Tape.tell(x, "return 2/1 within 3;loan 1/1;", 0);
        x.give(0, 1, 3);
        CHECK.same("lend(1, 0, 5)", 1, x.lend(1, 0, 5));
        CHECK.debt(x, 0, 1, 0, 6, 0, 3);
        CHECK.debt(x, 1, 0, 1, 5, 1, -1);
        CHECK.same("count(2)", 2, x.count(2));
        CHECK.same("fame(1)", 0, x.fame(1));
        Ledger y = Ledger.of(1_000_000, 0);
        y.lend(0, 1, 1_000_000);
        CHECK.debt(y, 0, 1, 0, 1_000_000, 1, -1);
    }

    private static void itHasFewer() {
        CHECK.sentence("Promise 8: -1 as give(): it has fewer; nothing changes");
        CHECK.refused("lend(0, 1, 7)", -1, LendTest::three, x -> x.lend(0, 1, 7));
        CHECK.refused("lend(0, 1, MAX)", -1, LendTest::three, x -> x.lend(0, 1, Integer.MAX_VALUE));
        CHECK.same("lend(0, 1, 5)", 1, three().lend(0, 1, 5));
        Ledger x = three();
        CHECK.same("lend(0, 1, 6)", 1, x.lend(0, 1, 6));
        CHECK.blankets(x, 0, 30);
        CHECK.same("of none", -1, x.lend(0, 1, 1));
    }

    private static void oneDebtTooMany() {
        CHECK.sentence("Promise 8: -2 as give(): a DEBT would be one too many; nothing changes");
        Ledger x = Ledger.of(500, 500).fillDebts(399);
        CHECK.same("the 400th", 399, x.lend(0, 1, 1));
        CHECK.debt(x, 399, 1, 0, 1, 1, -1);
        CHECK.same("a 401st", -2, x.lend(0, 1, 1));
        CHECK.refused("a 401st", -2, LendTest::full, y -> y.lend(0, 1, 1));
    }

    private static void fourHundredInAll() {
        CHECK.sentence("DEBTS, numbered from 0 on, 400 at most in all");
        Ledger answered = full();
        CHECK.same("answer all of the one", 200, answered.give(0, 1, 200));
        CHECK.same("answer all of the other", 200, answered.give(1, 0, 200));
        CHECK.same("a 401st, all being answered", -2, answered.lend(0, 1, 1));
    }

    private static void theFirstOfThese() {
        CHECK.sentence("Promise 8: as give(): the first of these; nothing changes");
        CHECK.refused("fewer, and no room", -1, LendTest::full, x -> x.lend(0, 1, 501));
        CHECK.refused("just enough, and no room", -2, LendTest::full, x -> x.lend(0, 1, 500));
    }

    private static void noSuchChief() {
        CHECK.sentence("Promise 8: exceptions as give(): no such CHIEF");
        CHECK.refusedByIndex("lend(-1, 0, 1)", LendTest::three, x -> x.lend(-1, 0, 1));
        CHECK.refusedByIndex("lend(0, -1, 1)", LendTest::three, x -> x.lend(0, -1, 1));
        CHECK.refusedByIndex("lend(3, 0, 1)", LendTest::three, x -> x.lend(3, 0, 1));
        CHECK.refusedByIndex("lend(0, 3, 1)", LendTest::three, x -> x.lend(0, 3, 1));
        CHECK.refusedByIndex("lend(0, 3, 0)", LendTest::three, x -> x.lend(0, 3, 0));
        CHECK.refusedByIndex("lend(3, 3, 1)", LendTest::three, x -> x.lend(3, 3, 1));
        CHECK.refusedByIndex("lend(MAX, 0, 1)", LendTest::three, x -> x.lend(Integer.MAX_VALUE, 0, 1));
        CHECK.same("lend(2, 0, 1)", 1, three().lend(2, 0, 1));
        CHECK.same("lend(0, 2, 1)", 1, three().lend(0, 2, 1));
    }

    private static void bothAreOne() {
        CHECK.sentence("Promise 8: exceptions as give(): both are one");
        CHECK.refusedByArgument("lend(1, 1, 1)", LendTest::three, x -> x.lend(1, 1, 1));
        CHECK.refusedByArgument("lend(2, 2, 1), dead", LendTest::withADead, x -> x.lend(2, 2, 1));
    }

    private static void belowOne() {
        CHECK.sentence("Promise 8: exceptions as give(): n is below 1");
        CHECK.refusedByArgument("lend(0, 1, 0)", LendTest::three, x -> x.lend(0, 1, 0));
        CHECK.refusedByArgument("lend(0, 1, -1)", LendTest::three, x -> x.lend(0, 1, -1));
        CHECK.refusedByArgument("lend(0, 1, MIN)", LendTest::three,
                x -> x.lend(0, 1, Integer.MIN_VALUE));
        CHECK.refusedByArgument("lend(2, 1, 0), dead", LendTest::withADead, x -> x.lend(2, 1, 0));
        CHECK.same("lend(0, 1, 1)", 1, three().lend(0, 1, 1));
    }

    private static void oneDied() {
        CHECK.sentence("Promise 8: exceptions as give(): one DIED");
        CHECK.refusedByState("lend(2, 0, 1)", LendTest::withADead, x -> x.lend(2, 0, 1));
        CHECK.refusedByState("lend(0, 2, 1)", LendTest::withADead, x -> x.lend(0, 2, 1));
        CHECK.refusedByState("lend(0, 2, 100)", LendTest::withADead, x -> x.lend(0, 2, 100));
        CHECK.same("lend(0, 1, 1)", 1, withADead().lend(0, 1, 1));
    }
}
