/** Promise 7 give, with what GIVEN does to DEBTS. */
public final class GiveTest {
    private static final Check CHECK = new Check();

    public static void main(String[] args) {
        blanketsGo();
        debtsOfThatPair();
        orderOfAnswers();
        asFarAsItGoes();
        newGift();
        customInForce();
        roundedUp();
        mostOwed();
        whenItIsDue();
        noneIfZero();
        itHasFewer();
        oneDebtTooMany();
        fourHundredInAll();
        noDebtNoRefusal();
        theFirstOfThese();
        moreOwedThanAnIntHolds();
        noSuchChief();
        bothAreOne();
        belowOne();
        oneDied();
        CHECK.end();
    }

    private static Ledger three() {
        Ledger x = Ledger.of(10, 10, 10);
        Tape.tell(x, "return 2/1 within 3;", 0);
        x.lend(1, 0, 2);
        return x;
    }

    private static Ledger withADead() {
        Ledger x = three();
        x.died(2, 1);
        return x;
    }

    /** 400 debts: 200 loans of 1 of chief 1 to 0, 200 of chief 0 to 1. */
    private static Ledger full() {
        Ledger x = Ledger.of(500, 500, 100);
        Tape.tell(x, "return 1/1 within 1;", 0);
        return x.fillDebts(400);
    }

    private static void blanketsGo() {
        CHECK.sentence("Promise 7: GIVEN BLANKETS: how much of them answered DEBTS");
        Ledger x = Ledger.of(100, 50, 7);
        Tape.tell(x, "return 3/2 within 2;", 0);
        CHECK.same("a gift", 0, x.give(0, 1, 10));
        CHECK.blankets(x, 90, 60, 7);
        CHECK.debt(x, 0, 1, 0, 15, 0, 2);
        CHECK.same("a part of the answer", 6, x.give(1, 0, 6));
        CHECK.blankets(x, 96, 54, 7);
        CHECK.same("the rest and more", 9, x.give(1, 0, 11));
        CHECK.blankets(x, 107, 43, 7);
        CHECK.lefts(x, 0, 3);
        CHECK.debt(x, 1, 0, 1, 3, 0, 2);
    }

    private static void debtsOfThatPair() {
        CHECK.sentence("GIVEN: first DEBTS that the first has to the second are answered");
        Ledger x = Ledger.of(100, 100, 100);
        x.lend(0, 1, 10);
        x.lend(2, 1, 10);
        x.lend(0, 2, 10);
        CHECK.same("to the one that owes", 0, x.give(0, 1, 5));
        CHECK.lefts(x, 10, 10, 10);
        CHECK.same("just what it owes to that one", 10, x.give(1, 0, 10));
        CHECK.lefts(x, 0, 10, 10);
        CHECK.same("to a third", 10, x.give(1, 2, 30));
        CHECK.lefts(x, 0, 0, 10);
        CHECK.same("of a third", 0, x.give(1, 0, 5));
        CHECK.lefts(x, 0, 0, 10);
    }

    private static void orderOfAnswers() {
        CHECK.sentence("GIVEN: gifts' by the YEAR in which they are due, then by number, then loans' by"
                + " number");
        Ledger x = Ledger.of(100, 100);
        x.lend(0, 1, 1);
        Tape.tell(x, "return 1/1 within 9;", 0);
        x.give(0, 1, 2);
        x.give(0, 1, 3);
        Tape.tell(x, "return 1/1 within 4;", 0);
        x.give(0, 1, 4);
        x.lend(0, 1, 5);
        x.give(0, 1, 6);
        Tape.tell(x, "return 1/1 within 0;", 0);
        x.wait(5);
        x.give(0, 1, 7);
        CHECK.lefts(x, 1, 2, 3, 4, 5, 6, 7);
        CHECK.same("the earliest year, the least number", 1, x.give(1, 0, 1));
        CHECK.lefts(x, 1, 2, 3, 3, 5, 6, 7);
        CHECK.same("the next one of that year", 5, x.give(1, 0, 5));
        CHECK.lefts(x, 1, 2, 3, 0, 5, 4, 7);
        CHECK.same("all of that year", 4, x.give(1, 0, 4));
        CHECK.lefts(x, 1, 2, 3, 0, 5, 0, 7);
        CHECK.same("a later number of an earlier year", 8, x.give(1, 0, 8));
        CHECK.lefts(x, 1, 1, 3, 0, 5, 0, 0);
        CHECK.same("the latest year", 3, x.give(1, 0, 3));
        CHECK.lefts(x, 1, 0, 1, 0, 5, 0, 0);
        CHECK.same("then loans'", 4, x.give(1, 0, 4));
        CHECK.lefts(x, 0, 0, 0, 0, 3, 0, 0);
        CHECK.same("then a new gift", 3, x.give(1, 0, 13));
        CHECK.lefts(x, 0, 0, 0, 0, 0, 0, 0, 10);
        CHECK.debt(x, 7, 0, 1, 10, 0, 5);
        dueAtTheGreatestYear();
    }

    private static void dueAtTheGreatestYear() {
        Ledger x = Ledger.of(10, 10);
        Tape.tell(x, "return 1/1 within 1000;", 0);
        for (int i = 0; i < 10; i++) {
            x.wait(100);
        }
        x.lend(0, 1, 1);
        x.give(0, 1, 1);
        CHECK.debt(x, 1, 1, 0, 1, 0, 2000);
        x.give(1, 0, 1);
        CHECK.lefts(x, 1, 0);
    }

    private static void asFarAsItGoes() {
        CHECK.sentence("GIVEN: as far as n goes");
        answered(4, 4, 1, 5);
        answered(5, 5, 0, 5);
        answered(6, 6, 0, 4);
        answered(9, 9, 0, 1);
        answered(10, 10, 0, 0);
        answered(11, 10, 0, 0, 1);
    }

    /** Gives n where two loans of 5 are owed. */
    private static void answered(int n, int due, int... lefts) {
        Ledger x = Ledger.of(50, 50);
        Tape.tell(x, "return 1/1 within 1;", 0);
        x.lend(0, 1, 5);
        x.lend(0, 1, 5);
        CHECK.same("give(1, 0, " + n + ")", due, x.give(1, 0, n));
        CHECK.lefts(x, lefts);
    }

    private static void newGift() {
        CHECK.sentence("GIVEN: what is left of n is a new gift: a DEBT of the second to the first");
        Ledger x = Ledger.of(100, 100);
        Tape.tell(x, "return 5/1 within 2;", 0);
        x.lend(0, 1, 7);
        CHECK.same("one more than owed", 7, x.give(1, 0, 8));
        CHECK.lefts(x, 0, 5);
        CHECK.debt(x, 1, 0, 1, 5, 0, 2);
    }

    private static void customInForce() {
        CHECK.sentence("GIVEN: by the CUSTOM in force");
        Ledger x = Ledger.of(100, 100);
        Tape.tell(x, "return 2/1 within 1;", 1);
        Tape.tell(x, "return 3/1 within 1;", 2);
        CHECK.same("in the year 0", 0, x.give(0, 1, 1));
        CHECK.same("count(2)", 0, x.count(2));
        x.wait(1);
        x.give(0, 1, 1);
        CHECK.debt(x, 0, 1, 0, 2, 0, 2);
        x.wait(1);
        x.give(0, 1, 1);
        CHECK.debt(x, 1, 1, 0, 3, 0, 3);
        Tape.tell(x, "return 4/1 within 5;", 2);
        x.give(0, 1, 1);
        CHECK.debt(x, 2, 1, 0, 4, 0, 7);
    }

    private static void roundedUp() {
        CHECK.sentence("GIVEN: what is left times p by q, rounded up");
        Ledger x = Ledger.of(3000, 0);
        Tape.tell(x, "return 1/3 within 0;", 0);
        int[] thirds = {1, 1, 1, 2, 2, 2, 3};
        for (int i = 0; i < thirds.length; i++) {
            x.give(0, 1, i + 1);
            CHECK.same("a third of " + (i + 1), thirds[i], x.debt(i, 2));
        }
        Tape.tell(x, "return 1/1000 within 0;", 0);
        x.give(0, 1, 1);
        CHECK.same("a thousandth of 1", 1, x.debt(7, 2));
        x.give(0, 1, 1000);
        CHECK.same("a thousandth of 1000", 1, x.debt(8, 2));
        x.give(0, 1, 1001);
        CHECK.same("a thousandth of 1001", 2, x.debt(9, 2));
    }

    private static void mostOwed() {
        CHECK.sentence("GIVEN: (1,000,000,000 at most)");
        owed(999_999, 999_999_000);
        owed(1_000_000, 1_000_000_000);
        owed(1_000_001, 1_000_000_000);
        // their thousands would come to less, if they were counted round by 32 bits
        owed(2_147_484, 1_000_000_000);
        owed(4_294_968, 1_000_000_000);
        owed(12_000_000, 1_000_000_000);
    }

    private static void owed(int gift, int due) {
        Ledger x = richest();
        Tape.tell(x, "return 1000/1 within 1;", 0);
        CHECK.same("a gift of " + gift, 0, x.give(0, 1, gift));
        CHECK.debt(x, 0, 1, 0, due, 0, 1);
    }

    private static Ledger richest() {
        Ledger x = new Ledger();
        for (int i = 0; i < 12; i++) {
            x.chief(1_000_000);
        }
        for (int i = 1; i < 12; i++) {
            x.give(i, 0, 1_000_000);
        }
        return x;
    }

    private static void whenItIsDue() {
        CHECK.sentence("GIVEN: due in the YEAR and so many YEARS");
        Ledger x = Ledger.of(100, 100);
        Tape.tell(x, "return 1/1 within 0;", 0);
        x.give(0, 1, 1);
        CHECK.debt(x, 0, 1, 0, 1, 0, 0);
        Tape.tell(x, "return 1/1 within 1000;", 0);
        x.give(0, 1, 1);
        CHECK.debt(x, 1, 1, 0, 1, 0, 1000);
        x.wait(3);
        x.give(0, 1, 1);
        CHECK.debt(x, 2, 1, 0, 1, 0, 1003);
        CHECK.debt(x, 1, 1, 0, 1, 0, 1000);
    }

    private static void noneIfZero() {
        CHECK.sentence("GIVEN: (none, if that is 0)");
        Ledger x = Ledger.of(100, 100);
        Tape.tell(x, "return 0/7 within 5;", 0);
        CHECK.same("a return of 0", 0, x.give(0, 1, 10));
        CHECK.same("count(2)", 0, x.count(2));
        Tape.tell(x, "return 1/1 within 0;", 0);
        x.lend(0, 1, 10);
        CHECK.same("nothing is left of n", 10, x.give(1, 0, 10));
        CHECK.same("count(2)", 1, x.count(2));
        CHECK.same("fame(0)", 10, x.fame(0));
    }

    private static void itHasFewer() {
        CHECK.sentence("Promise 7: -1: it has fewer; nothing changes");
        // chief 0 has 12
        CHECK.refused("give(0, 1, 13)", -1, GiveTest::three, x -> x.give(0, 1, 13));
        CHECK.refused("give(0, 1, MAX)", -1, GiveTest::three, x -> x.give(0, 1, Integer.MAX_VALUE));
        CHECK.same("give(0, 1, 11)", 2, three().give(0, 1, 11));
        Ledger x = three();
        CHECK.same("give(0, 1, 12)", 2, x.give(0, 1, 12));
        CHECK.blankets(x, 0, 20, 10);
        CHECK.same("of none", -1, x.give(0, 1, 1));
    }

    private static void oneDebtTooMany() {
        CHECK.sentence("Promise 7: -2: a DEBT would be one too many; nothing changes");
        Ledger x = Ledger.of(500, 500, 100);
        Tape.tell(x, "return 1/1 within 1;", 0);
        x.fillDebts(399);
        CHECK.same("the 400th", 0, x.give(2, 0, 1));
        CHECK.debt(x, 399, 0, 2, 1, 0, 1);
        CHECK.same("a 401st", -2, x.give(2, 0, 1));
        CHECK.refused("a 401st", -2, GiveTest::full, y -> y.give(2, 0, 1));
        CHECK.refused("one beyond what is owed", -2, GiveTest::full, y -> y.give(1, 0, 201));
    }

    private static void fourHundredInAll() {
        CHECK.sentence("DEBTS, numbered from 0 on, 400 at most in all");
        Ledger answered = full();
        answered.give(1, 0, 200);
        answered.give(0, 1, 200);
        CHECK.same("count(3)", 0, answered.count(3));
        CHECK.same("a 401st, all being answered", -2, answered.give(2, 0, 1));
    }

    private static void noDebtNoRefusal() {
        CHECK.sentence("Promise 7: -2: only where a DEBT would be one too many");
        Ledger x = full();
        CHECK.same("a part of what is owed", 150, x.give(1, 0, 150));
        CHECK.same("one beyond what is owed", -2, x.give(1, 0, 51));
        CHECK.same("just what is owed", 50, x.give(1, 0, 50));
        CHECK.same("one beyond what is owed", -2, x.give(1, 0, 1));
        Tape.tell(x, "return 0/1 within 1;", 0);
        CHECK.same("a return of 0", 0, x.give(2, 0, 1));
        x.custom(0, 0);
        CHECK.same("without return", 0, x.give(2, 0, 1));
        CHECK.same("count(2)", 400, x.count(2));
        CHECK.blankets(x, 702, 300, 98);
    }

    private static void theFirstOfThese() {
        CHECK.sentence("Promise 7: (the first of these; nothing changes)");
        CHECK.refused("fewer, and no room", -1, GiveTest::full, x -> x.give(2, 0, 101));
        CHECK.refused("just enough, and no room", -2, GiveTest::full, x -> x.give(2, 0, 100));
    }

    /** Three debts of 1,000,000,000 are more than what is given, however full the ledger is. */
    private static void moreOwedThanAnIntHolds() {
        CHECK.sentence("GIVEN: DEBTS are answered, as far as n goes, where they come to more than an int");
        Ledger x = Ledger.of(1_000_000, 1_000_000, 1_000_000, 0);
        x.give(1, 0, 1_000_000);
        x.give(2, 0, 1_000_000);
        Tape.tell(x, "return 1000/1 within 1;", 0);
        for (int i = 0; i < 3; i++) {
            CHECK.same("give(0, 1, 999000)", 0, x.give(0, 1, 999_000));
        }
        x.fillDebts(400);
        CHECK.same("give(1, 0, 2000000)", 2_000_000, x.give(1, 0, 2_000_000));
        CHECK.same("debt(0, 2)", 997_000_000, x.debt(0, 2));
        CHECK.same("debt(1, 2)", 999_000_000, x.debt(1, 2));
        CHECK.same("give(1, 3, 1)", -2, x.give(1, 3, 1));
    }

    private static void noSuchChief() {
        CHECK.sentence("Promise 7: IndexOutOfBoundsException: no such CHIEF");
        CHECK.refusedByIndex("give(-1, 0, 1)", GiveTest::three, x -> x.give(-1, 0, 1));
        CHECK.refusedByIndex("give(0, -1, 1)", GiveTest::three, x -> x.give(0, -1, 1));
        CHECK.refusedByIndex("give(3, 0, 1)", GiveTest::three, x -> x.give(3, 0, 1));
        CHECK.refusedByIndex("give(0, 3, 1)", GiveTest::three, x -> x.give(0, 3, 1));
        CHECK.refusedByIndex("give(12, 0, 1)", GiveTest::richest, x -> x.give(12, 0, 1));
        CHECK.refusedByIndex("give(0, 12, 1)", GiveTest::richest, x -> x.give(0, 12, 1));
        CHECK.refusedByIndex("give(0, MAX, 0)", GiveTest::three, x -> x.give(0, Integer.MAX_VALUE, 0));
        CHECK.refusedByIndex("give(MIN, 0, 1)", GiveTest::three, x -> x.give(Integer.MIN_VALUE, 0, 1));
        CHECK.refusedByIndex("give(3, 3, 1)", GiveTest::three, x -> x.give(3, 3, 1));
        CHECK.refusedByIndex("give(2, 3, 1)", GiveTest::withADead, x -> x.give(2, 3, 1));
        CHECK.same("give(2, 0, 1)", 0, three().give(2, 0, 1));
        CHECK.same("give(0, 2, 1)", 0, three().give(0, 2, 1));
        CHECK.same("give(0, 11, 1)", 0, richest().give(0, 11, 1));
    }

    private static void bothAreOne() {
        CHECK.sentence("Promise 7: IllegalArgumentException: both are one");
        CHECK.refusedByArgument("give(0, 0, 1)", GiveTest::three, x -> x.give(0, 0, 1));
        CHECK.refusedByArgument("give(2, 2, 1)", GiveTest::three, x -> x.give(2, 2, 1));
        CHECK.refusedByArgument("give(2, 2, 11)", GiveTest::three, x -> x.give(2, 2, 11));
        CHECK.refusedByArgument("give(2, 2, 1), dead", GiveTest::withADead, x -> x.give(2, 2, 1));
    }

    private static void belowOne() {
        CHECK.sentence("Promise 7: IllegalArgumentException: or n is below 1");
        CHECK.refusedByArgument("give(0, 1, 0)", GiveTest::three, x -> x.give(0, 1, 0));
        CHECK.refusedByArgument("give(0, 1, -1)", GiveTest::three, x -> x.give(0, 1, -1));
        CHECK.refusedByArgument("give(0, 1, MIN)", GiveTest::three,
                x -> x.give(0, 1, Integer.MIN_VALUE));
        CHECK.refusedByArgument("give(2, 0, 0), dead", GiveTest::withADead, x -> x.give(2, 0, 0));
        CHECK.same("give(0, 1, 1)", 1, three().give(0, 1, 1));
    }

    private static void oneDied() {
        CHECK.sentence("Promise 7: IllegalStateException: one DIED");
        CHECK.refusedByState("give(2, 0, 1)", GiveTest::withADead, x -> x.give(2, 0, 1));
        CHECK.refusedByState("give(0, 2, 1)", GiveTest::withADead, x -> x.give(0, 2, 1));
        CHECK.refusedByState("give(0, 2, 100)", GiveTest::withADead, x -> x.give(0, 2, 100));
        CHECK.same("give(0, 1, 1)", 1, withADead().give(0, 1, 1));
    }
}
