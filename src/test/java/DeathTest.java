/** Promise 14 died. */
public final class DeathTest {
    private static final Check CHECK = new Check();

    public static void main(String[] args) {
        blankets();
        coppers();
        debtsToItAndOfIt();
        somethingIsLeft();
        betweenThemBoth();
        nothingToInherit();
        heirOfAnHeir();
        whatPassedGoesOn();
        noSuchChief();
        bothAreOne();
        oneDied();
        CHECK.end();
    }

    private static Ledger three() {
        Ledger x = Ledger.of(10, 20, 40);
        x.lend(0, 1, 5);
        x.copper(0, 9);
        return x;
    }

    private static Ledger withADead() {
        Ledger x = three();
        x.died(1, 2);
        return x;
    }

    private static void blankets() {
        CHECK.sentence("A CHIEF that DIED: its BLANKETS are its heir's");
        Ledger x = Ledger.of(1, 20, 300);
        x.died(1, 2);
        CHECK.blankets(x, 1, 0, 320);
        x.died(2, 0);
        CHECK.blankets(x, 321, 0, 0);
        Ledger y = new Ledger();
        for (int i = 0; i < 12; i++) {
            y.chief(1_000_000);
        }
        for (int i = 11; i > 0; i--) {
            y.died(i, i - 1);
        }
        CHECK.same("all there may be", 12_000_000, y.about(0, 0));
    }

    private static void coppers() {
        CHECK.sentence("A CHIEF that DIED: its COPPERS are its heir's");
        Ledger x = Ledger.of(0, 0, 0);
        x.copper(0, 10);
        x.copper(1, 20);
        x.copper(2, 30);
        x.copper(1, 40);
        x.copper(1, 1);
        x.breaks(4);
        CHECK.same("died(1, 0)", 0, x.died(1, 0));
        // all coppers, so the one that is gone has the heir as its owner too
        int[] owners = {0, 0, 2, 0, 0};
        int[] worths = {10, 20, 30, 40, 0};
        for (int i = 0; i < owners.length; i++) {
            CHECK.same("owner of " + i, owners[i], x.copperTold(i, 0));
            CHECK.same("worth of " + i, worths[i], x.copperTold(i, 1));
        }
        CHECK.same("the heir passes one on", 0, x.pass(1, 2));
        CHECK.same("fame(0)", 20, x.fame(0));
        CHECK.same("fame(1)", 0, x.fame(1));
        CHECK.same("an eighth of what it had at first", 35, x.breaks(3));
    }

    private static void debtsToItAndOfIt() {
        CHECK.sentence("Promise 14: DIED: how many DEBTS are the heir's (to it, of it) by that");
        Ledger x = Ledger.of(100, 100, 100, 100);
        Tape.tell(x, "return 1/1 within 3;", 0);
        x.give(0, 1, 1);
        x.give(1, 3, 2);
        x.lend(1, 0, 3);
        x.lend(3, 1, 4);
        x.lend(0, 2, 5);
        x.lend(2, 0, 6);
        x.lend(0, 3, 7);
        CHECK.same("died(1, 2)", 4, x.died(1, 2));
        CHECK.debt(x, 0, 2, 0, 1, 0, 3);
        CHECK.debt(x, 1, 3, 2, 2, 0, 3);
        CHECK.debt(x, 2, 0, 2, 3, 1, -1);
        CHECK.debt(x, 3, 2, 3, 4, 1, -1);
        CHECK.debt(x, 4, 2, 0, 5, 1, -1);
        CHECK.debt(x, 5, 0, 2, 6, 1, -1);
        CHECK.debt(x, 6, 3, 0, 7, 1, -1);
        CHECK.same("count(2)", 7, x.count(2));
        CHECK.same("count(3)", 7, x.count(3));
        CHECK.same("count(0)", 4, x.count(0));
    }

    private static void somethingIsLeft() {
        CHECK.sentence("A CHIEF that DIED: DEBTS, of which something is left, are its heir's");
        Ledger x = Ledger.of(100, 100, 100);
        x.lend(0, 1, 5);
        x.lend(1, 0, 5);
        x.lend(0, 1, 6);
        x.lend(1, 0, 6);
        x.give(0, 1, 5);
        x.give(1, 0, 5);
        x.give(0, 1, 5);
        x.give(1, 0, 5);
        CHECK.lefts(x, 0, 0, 1, 1);
        CHECK.same("died(1, 2)", 2, x.died(1, 2));
        CHECK.debt(x, 0, 1, 0, 0, 1, -1);
        CHECK.debt(x, 1, 0, 1, 0, 1, -1);
        CHECK.debt(x, 2, 2, 0, 1, 1, -1);
        CHECK.debt(x, 3, 0, 2, 1, 1, -1);
    }

    private static void betweenThemBoth() {
        CHECK.sentence("A CHIEF that DIED: DEBTS between them both are gone");
        Ledger x = Ledger.of(100, 100, 100);
        Tape.tell(x, "return 1/1 within 3;loan 1/1;", 0);
        x.give(1, 2, 1);
        x.lend(1, 2, 1);
        x.lend(2, 1, 1);
        x.lend(0, 1, 1);
        x.lend(2, 0, 1);
        CHECK.same("died(1, 2)", 1, x.died(1, 2));
        CHECK.lefts(x, 0, 0, 0, 1, 1);
        CHECK.same("count(3)", 2, x.count(3));
        // what is gone is not the heir's, so it keeps its names
        CHECK.debt(x, 0, 2, 1, 0, 0, 3);
        CHECK.debt(x, 1, 2, 1, 0, 1, -1);
        CHECK.debt(x, 2, 1, 2, 0, 1, -1);
        x.wait(5);
        CHECK.lefts(x, 0, 0, 0, 32, 32);
        CHECK.same("what is gone is not late", -1, x.late(0));
    }

    private static void nothingToInherit() {
        CHECK.sentence("Promise 14: how many DEBTS are the heir's by that, there being none");
        Ledger x = Ledger.of(0, 0, 7);
        CHECK.same("died(0, 1)", 0, x.died(0, 1));
        CHECK.same("about(0, 1)", 0, x.about(0, 1));
        CHECK.blankets(x, 0, 0, 7);
        Ledger y = Ledger.of(9, 9, 9);
        y.lend(1, 2, 3);
        CHECK.same("others' debts", 0, y.died(0, 1));
        CHECK.debt(y, 0, 2, 1, 3, 1, -1);
    }

    private static void heirOfAnHeir() {
        CHECK.sentence("A CHIEF that DIED: all is its heir's, also what it had from another one");
        Ledger x = Ledger.of(1, 2, 4, 8);
        x.lend(3, 0, 8);
        x.copper(0, 5);
        CHECK.same("died(0, 1)", 1, x.died(0, 1));
        CHECK.same("died(1, 2)", 1, x.died(1, 2));
        CHECK.debt(x, 0, 2, 3, 8, 1, -1);
        CHECK.same("copperTold(0, 0)", 2, x.copperTold(0, 0));
        CHECK.same("about(2, 0)", 15, x.about(2, 0));
        CHECK.same("died(2, 3)", 0, x.died(2, 3));
        CHECK.same("debt(0, 2)", 0, x.debt(0, 2));
        CHECK.same("about(3, 0)", 15, x.about(3, 0));
    }

    private static void whatPassedGoesOn() {
        CHECK.sentence("A CHIEF that DIED: its DEBTS are its heir's: they grow, and are answered by it");
        Ledger x = Ledger.of(100, 100, 100, 100);
        Tape.tell(x, "return 1/1 within 3;loan 1/1;", 0);
        x.give(0, 1, 1);
        x.lend(0, 2, 6);
        x.lend(1, 3, 3);
        x.died(1, 2);
        x.wait(1);
        CHECK.lefts(x, 1, 12, 6);
        // the dead one's gift, then its own loan
        CHECK.same("give(2, 0, 5)", 5, x.give(2, 0, 5));
        CHECK.lefts(x, 0, 8, 6);
        CHECK.same("give(3, 2, 2)", 2, x.give(3, 2, 2));
        CHECK.lefts(x, 0, 8, 4);
    }

    private static void noSuchChief() {
        CHECK.sentence("Promise 14: IndexOutOfBoundsException: no such CHIEF");
        CHECK.refusedByIndex("died(-1, 0)", DeathTest::three, x -> x.died(-1, 0));
        CHECK.refusedByIndex("died(0, -1)", DeathTest::three, x -> x.died(0, -1));
        CHECK.refusedByIndex("died(3, 0)", DeathTest::three, x -> x.died(3, 0));
        CHECK.refusedByIndex("died(0, 3)", DeathTest::three, x -> x.died(0, 3));
        CHECK.refusedByIndex("died(3, 3)", DeathTest::three, x -> x.died(3, 3));
        CHECK.refusedByIndex("died(1, 3), dead", DeathTest::withADead, x -> x.died(1, 3));
        CHECK.refusedByIndex("died(MIN, 0)", DeathTest::three, x -> x.died(Integer.MIN_VALUE, 0));
        CHECK.refusedByIndex("died(0, MAX)", DeathTest::three, x -> x.died(0, Integer.MAX_VALUE));
        CHECK.same("died(2, 0)", 0, three().died(2, 0));
        CHECK.same("died(0, 2)", 1, three().died(0, 2));
    }

    private static void bothAreOne() {
        CHECK.sentence("Promise 14: IllegalArgumentException: both are one");
        CHECK.refusedByArgument("died(0, 0)", DeathTest::three, x -> x.died(0, 0));
        CHECK.refusedByArgument("died(2, 2)", DeathTest::three, x -> x.died(2, 2));
        CHECK.refusedByArgument("died(1, 1), dead", DeathTest::withADead, x -> x.died(1, 1));
    }

    private static void oneDied() {
        CHECK.sentence("Promise 14: IllegalStateException: one DIED");
        CHECK.refusedByState("died(1, 0)", DeathTest::withADead, x -> x.died(1, 0));
        CHECK.refusedByState("died(0, 1)", DeathTest::withADead, x -> x.died(0, 1));
        CHECK.refusedByState("died(1, 2)", DeathTest::withADead, x -> x.died(1, 2));
        CHECK.same("died(0, 2)", 0, withADead().died(0, 2));
    }
}
