/** Promise 14 died. */
public final class DeathTest {
    public static void main(String[] args) {
        Check check = new Check();
        allPasses(check);
        answeredDebtsStay(check);
        aSingleOneIsLeft(check);
        coppers(check);
        heirOfAnHeir(check);
        exceptions(check);
        check.end();
    }

    private static void allPasses(Check check) {
        FeastLedger x = Check.ledger(100, 100, 100, 100);
        Check.tell(x, "return 1/1 within 3;loan 1/1;", 0);
        x.give(0, 1, 1);
        x.give(1, 2, 2);
        x.lend(1, 3, 3);
        x.lend(2, 1, 4);
        x.lend(1, 2, 5);
        x.lend(0, 2, 6);
        x.lend(0, 3, 7);
        check.same("died(1, 2)", 2, x.died(1, 2));
        check.debt(x, 0, 2, 0, 1, 0, 3);
        check.same("a gift's between both", 0, x.debt(1, 2));
        check.debt(x, 2, 3, 2, 3, 1, -1);
        check.same("a loan's between both", 0, x.debt(3, 2));
        check.same("a loan's between both", 0, x.debt(4, 2));
        check.debt(x, 5, 2, 0, 6, 1, -1);
        check.debt(x, 6, 3, 0, 7, 1, -1);
        check.same("count(2)", 7, x.count(2));
        check.same("count(3)", 4, x.count(3));
        check.same("count(0)", 4, x.count(0));
        check.same("about(1, 0)", 0, x.about(1, 0));
        check.same("about(1, 1)", 0, x.about(1, 1));
        check.same("about(2, 0)", 204, x.about(2, 0));
        x.wait(1);
        check.same("what is gone does not grow", 0, x.debt(3, 2));
        check.same("what passed grows", 6, x.debt(2, 2));
        // the heir answers the dead one's gift, then its own loan
        check.same("give(2, 0, 5)", 5, x.give(2, 0, 5));
        check.debt(x, 0, 2, 0, 0, 0, 3);
        check.debt(x, 5, 2, 0, 8, 1, -1);
        check.same("give(3, 2, 2)", 2, x.give(3, 2, 2));
        check.debt(x, 2, 3, 2, 4, 1, -1);
    }

    private static void answeredDebtsStay(Check check) {
        FeastLedger x = Check.ledger(100, 100, 100);
        x.lend(0, 1, 5);
        x.lend(1, 0, 5);
        x.give(0, 1, 5);
        x.give(1, 0, 5);
        check.same("died(1, 2)", 0, x.died(1, 2));
        check.debt(x, 0, 1, 0, 0, 1, -1);
        check.debt(x, 1, 0, 1, 0, 1, -1);
        FeastLedger y = Check.ledger(100, 100, 100);
        y.lend(0, 1, 5);
        y.lend(2, 1, 5);
        check.same("died(0, 2)", 1, y.died(0, 2));
        check.debt(y, 0, 1, 2, 5, 1, -1);
        check.same("died(1, 2)", 0, y.died(1, 2));
        check.same("count(3)", 0, y.count(3));
        check.same("about(2, 0)", 300, y.about(2, 0));
    }

    private static void aSingleOneIsLeft(Check check) {
        FeastLedger x = Check.ledger(100, 100, 100);
        x.lend(0, 1, 1);
        x.lend(1, 0, 1);
        x.lend(1, 2, 1);
        x.lend(2, 1, 1);
        check.same("died(1, 2)", 2, x.died(1, 2));
        check.debt(x, 0, 2, 0, 1, 1, -1);
        check.debt(x, 1, 0, 2, 1, 1, -1);
        check.same("debt(2, 2)", 0, x.debt(2, 2));
        check.same("debt(3, 2)", 0, x.debt(3, 2));
    }

    private static void coppers(Check check) {
        FeastLedger x = Check.ledger(0, 0, 0);
        x.copper(0, 10);
        x.copper(1, 20);
        x.copper(2, 30);
        x.copper(1, 40);
        check.same("died(1, 0)", 0, x.died(1, 0));
        int[] owners = {0, 0, 2, 0};
        int[] worths = {10, 20, 30, 40};
        for (int i = 0; i < 4; i++) {
            check.same("owner of " + i, owners[i], x.copperTold(i, 0));
            check.same("worth of " + i, worths[i], x.copperTold(i, 1));
        }
        check.same("the heir passes it", 0, x.pass(1, 2));
        // the document has all coppers pass, so one that is gone has the heir as its owner too
        x.copper(2, 1);
        x.breaks(4);
        x.died(2, 0);
        check.same("owner of a gone one", 0, x.copperTold(4, 0));
        check.same("worth of a gone one", 0, x.copperTold(4, 1));
        check.same("fame(0)", 20, x.fame(0));
        check.same("fame(1)", 0, x.fame(1));
    }

    private static void heirOfAnHeir(Check check) {
        FeastLedger x = Check.ledger(1, 2, 4, 8);
        x.lend(3, 0, 8);
        x.copper(0, 5);
        check.same("died(0, 1)", 1, x.died(0, 1));
        check.same("died(1, 2)", 1, x.died(1, 2));
        check.debt(x, 0, 2, 3, 8, 1, -1);
        check.same("copperTold(0, 0)", 2, x.copperTold(0, 0));
        check.same("about(2, 0)", 15, x.about(2, 0));
        check.same("died(2, 3)", 0, x.died(2, 3));
        check.same("debt(0, 2)", 0, x.debt(0, 2));
        check.same("about(3, 0)", 15, x.about(3, 0));
    }

    private static void exceptions(Check check) {
        FeastLedger x = Check.ledger(1, 2, 4);
        check.index("died(-1, 0)", () -> x.died(-1, 0));
        check.index("died(0, -1)", () -> x.died(0, -1));
        check.index("died(3, 0)", () -> x.died(3, 0));
        check.index("died(0, 3)", () -> x.died(0, 3));
        check.index("died(3, 3)", () -> x.died(3, 3));
        check.argument("died(0, 0)", () -> x.died(0, 0));
        x.died(1, 2);
        String before = Check.state(x);
        check.state("died(1, 0)", () -> x.died(1, 0));
        check.state("died(0, 1)", () -> x.died(0, 1));
        check.argument("died(1, 1)", () -> x.died(1, 1));
        check.unchanged("died", before, x);
    }
}
