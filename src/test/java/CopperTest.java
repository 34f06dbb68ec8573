/** Promises 9 copper, 10 pass, 11 breaks, 12 copperTold. */
public final class CopperTest {
    public static void main(String[] args) {
        Check check = new Check();
        thirtyCoppers(check);
        wrongCoppers(check);
        passed(check);
        passedMakesOneDebtTooMany(check);
        passExceptions(check);
        broken(check);
        brokenIsPassedAtItsWorth(check);
        told(check);
        check.end();
    }

    private static void thirtyCoppers(Check check) {
        FeastLedger x = Check.ledger(10, 20);
        for (int i = 0; i < 30; i++) {
            check.same("copper", i, x.copper(i % 2, 1 + i));
            check.same("count(4)", i + 1, x.count(4));
        }
        for (int i = 0; i < 30; i++) {
            check.same("owner", i % 2, x.copperTold(i, 0));
            check.same("worth", 1 + i, x.copperTold(i, 1));
        }
        x.breaks(0);
        check.state("a 31st", () -> x.copper(0, 1));
        check.argument("a 31st of 0", () -> x.copper(0, 0));
        check.index("a 31st of none", () -> x.copper(2, 1));
        check.same("count(4)", 30, x.count(4));
        check.same("about(0, 0)", 10, x.about(0, 0));
    }

    private static void wrongCoppers(Check check) {
        FeastLedger x = Check.ledger(10, 20);
        check.index("copper(-1, 1)", () -> x.copper(-1, 1));
        check.index("copper(2, 1)", () -> x.copper(2, 1));
        check.index("copper(2, 0)", () -> x.copper(2, 0));
        check.argument("copper(0, 0)", () -> x.copper(0, 0));
        check.argument("copper(0, -1)", () -> x.copper(0, -1));
        check.argument("copper(0, 1000001)", () -> x.copper(0, 1_000_001));
        check.same("copper(0, 1)", 0, x.copper(0, 1));
        check.same("copper(0, 1000000)", 1, x.copper(0, 1_000_000));
        x.died(1, 0);
        check.state("copper(1, 1)", () -> x.copper(1, 1));
        check.argument("copper(1, 0)", () -> x.copper(1, 0));
        check.same("count(4)", 2, x.count(4));
    }

    private static void passed(Check check) {
        FeastLedger x = Check.ledger(10, 20, 30);
        Check.tell(x, "return 3/2 within 4;", 0);
        x.lend(1, 0, 7);
        x.wait(2);
        x.copper(0, 20);
        check.same("pass", 7, x.pass(0, 1));
        check.same("owner", 1, x.copperTold(0, 0));
        check.same("worth", 20, x.copperTold(0, 1));
        check.debt(x, 0, 0, 1, 0, 1, -1);
        check.debt(x, 1, 1, 0, 20, 0, 6);
        check.same("about(0, 0)", 17, x.about(0, 0));
        check.same("about(1, 0)", 13, x.about(1, 0));
        check.same("fame(0)", 20, x.fame(0));
        check.same("fame(1)", 0, x.fame(1));
        check.same("pass on", 0, x.pass(0, 2));
        check.same("owner", 2, x.copperTold(0, 0));
        check.debt(x, 2, 2, 1, 30, 0, 6);
        check.same("pass back", 20, x.pass(0, 1));
        check.same("pass back", 20, x.pass(0, 0));
        check.debt(x, 1, 1, 0, 0, 0, 6);
        check.same("count(2)", 3, x.count(2));
        FeastLedger y = Check.ledger(0, 0);
        Check.tell(y, "return 1000/1 within 0;", 0);
        y.copper(0, 1_000_000);
        check.same("pass", 0, y.pass(0, 1));
        check.debt(y, 0, 1, 0, 1_000_000_000, 0, 0);
    }

    private static void passedMakesOneDebtTooMany(Check check) {
        FeastLedger x = Check.ledger(500, 500, 0);
        Check.tell(x, "return 1/1 within 4;", 0);
        x.copper(2, 200);
        x.copper(1, 200);
        x.copper(1, 1);
        x.copper(2, 1);
        x.breaks(3);
        Check.fillDebts(x, 400);
        String before = Check.state(x);
        check.same("pass", -2, x.pass(0, 1));
        check.same("gone", -1, x.pass(3, 1));
        check.unchanged("pass", before, x);
        check.same("pass that answers all", 200, x.pass(1, 0));
        before = Check.state(x);
        check.same("pass", -2, x.pass(2, 0));
        check.unchanged("pass", before, x);
    }

    private static void passExceptions(Check check) {
        FeastLedger x = Check.ledger(10, 20, 30);
        x.copper(0, 10);
        check.index("pass(-1, 0)", () -> x.pass(-1, 0));
        check.index("pass(1, 0)", () -> x.pass(1, 0));
        check.index("pass(30, 0)", () -> x.pass(30, 0));
        check.index("pass(0, -1)", () -> x.pass(0, -1));
        check.index("pass(0, 3)", () -> x.pass(0, 3));
        check.argument("pass(0, 0)", () -> x.pass(0, 0));
        x.died(2, 1);
        check.state("pass(0, 2)", () -> x.pass(0, 2));
        x.copper(0, 1);
        x.breaks(1);
        String before = Check.state(x);
        check.same("gone", -1, x.pass(1, 1));
        check.argument("gone, to its owner", () -> x.pass(1, 0));
        check.state("gone, to a dead one", () -> x.pass(1, 2));
        check.unchanged("pass", before, x);
    }

    private static void broken(Check check) {
        worths(check, 1, 0);
        worths(check, 3, 2, 1, 0);
        worths(check, 7, 6, 5, 4, 3, 2, 1, 0);
        worths(check, 8, 7, 6, 5, 4, 3, 2, 1, 0);
        worths(check, 9, 8, 7, 6, 5, 4, 3, 2, 1, 0);
        worths(check, 16, 14, 12, 10, 8, 6, 4, 2, 0);
        worths(check, 17, 15, 13, 11, 9, 7, 5, 3, 1, 0);
        worths(check, 80, 70, 60, 50, 40, 30, 20, 10, 0);
        worths(check, 31, 28, 25, 22, 19, 16, 13, 10, 7, 4, 1, 0);
        worths(check, 1_000_000, 875_000, 750_000, 625_000, 500_000, 375_000, 250_000, 125_000, 0);
        FeastLedger x = Check.ledger(1);
        x.copper(0, 8);
        check.index("breaks(-1)", () -> x.breaks(-1));
        check.index("breaks(1)", () -> x.breaks(1));
        check.index("breaks(30)", () -> x.breaks(30));
    }

    private static void worths(Check check, int first, int... due) {
        FeastLedger x = Check.ledger(1, 1);
        x.copper(1, first);
        for (int worth : due) {
            check.same("breaks of " + first, worth, x.breaks(0));
            check.same("worth of " + first, worth, x.copperTold(0, 1));
        }
        check.same("breaks when gone", -1, x.breaks(0));
        check.same("worth when gone", 0, x.copperTold(0, 1));
        check.same("owner when gone", 1, x.copperTold(0, 0));
        check.same("count(4)", 1, x.count(4));
    }

    private static void brokenIsPassedAtItsWorth(Check check) {
        FeastLedger x = Check.ledger(0, 0);
        Check.tell(x, "return 1/1 within 4;", 0);
        x.copper(0, 80);
        x.breaks(0);
        check.same("pass", 0, x.pass(0, 1));
        check.same("debt(0, 2)", 70, x.debt(0, 2));
        check.same("fame(0)", 70, x.fame(0));
        check.same("an eighth of the first worth", 60, x.breaks(0));
        check.same("pass", 60, x.pass(0, 0));
        check.same("debt(0, 2)", 10, x.debt(0, 2));
    }

    private static void told(Check check) {
        FeastLedger x = Check.ledger(1, 1);
        x.copper(1, 5);
        check.same("copperTold(0, 0)", 1, x.copperTold(0, 0));
        check.same("copperTold(0, 1)", 5, x.copperTold(0, 1));
        check.argument("copperTold(0, -1)", () -> x.copperTold(0, -1));
        check.argument("copperTold(0, 2)", () -> x.copperTold(0, 2));
        check.index("copperTold(-1, 0)", () -> x.copperTold(-1, 0));
        check.index("copperTold(1, 0)", () -> x.copperTold(1, 0));
        check.index("copperTold(1, 2)", () -> x.copperTold(1, 2));
    }
}
