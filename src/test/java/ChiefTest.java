/** Promises 1 a new object, 2 chief, 18 about, 19 fame, 22 count. */
public final class ChiefTest {
    public static void main(String[] args) {
        Check check = new Check();
        newObject(check);
        twelveChiefs(check);
        wrongBlankets(check);
        about(check);
        fame(check);
        rank(check);
        fameBeyondInt(check);
        count(check);
        check.end();
    }

    private static void newObject(Check check) {
        FeastLedger x = new FeastLedger();
        for (int what = 0; what < 7; what++) {
            check.same("count(" + what + ")", 0, x.count(what));
        }
        check.same("fault", -1, x.fault());
        check.same("force", -1, x.force(1000));
        check.same("late", -1, x.late(0));
        check.index("about", () -> x.about(0, 0));
        check.index("debt", () -> x.debt(0, 0));
        check.index("copperTold", () -> x.copperTold(0, 0));
        check.index("feast", () -> x.feast(0, 0, 1, 0));
        FeastLedger used = Check.ledger(5, 5);
        used.lend(0, 1, 1);
        used.copper(0, 1);
        used.wait(1);
        check.same("another object's chiefs", 0, new FeastLedger().count(0));
        check.same("another object's debts", 0, new FeastLedger().count(2));
        check.same("another object's year", 0, new FeastLedger().count(5));
    }

    private static void twelveChiefs(Check check) {
        FeastLedger x = new FeastLedger();
        for (int i = 0; i < 12; i++) {
            check.same("chief", i, x.chief(i * 7));
            check.same("count(0)", i + 1, x.count(0));
        }
        for (int i = 0; i < 12; i++) {
            check.same("about(" + i + ", 0)", i * 7, x.about(i, 0));
        }
        check.state("a 13th chief", () -> x.chief(1));
        check.argument("a 13th chief with -1", () -> x.chief(-1));
        x.died(3, 4);
        check.state("a 13th chief behind a death", () -> x.chief(1));
        check.same("count(0)", 12, x.count(0));
    }

    private static void wrongBlankets(Check check) {
        FeastLedger x = new FeastLedger();
        check.argument("chief(-1)", () -> x.chief(-1));
        check.argument("chief(MIN)", () -> x.chief(Integer.MIN_VALUE));
        check.argument("chief(1000001)", () -> x.chief(1_000_001));
        check.argument("chief(MAX)", () -> x.chief(Integer.MAX_VALUE));
        check.same("count(0)", 0, x.count(0));
        check.same("chief(0)", 0, x.chief(0));
        check.same("chief(1000000)", 1, x.chief(1_000_000));
        check.same("about(1, 0)", 1_000_000, x.about(1, 0));
    }

    private static void about(Check check) {
        FeastLedger x = Check.ledger(10, 20);
        check.same("about(0, 0)", 10, x.about(0, 0));
        check.same("about(0, 1)", 1, x.about(0, 1));
        check.same("about(0, 2)", 0, x.about(0, 2));
        check.same("about(1, 2)", 1, x.about(1, 2));
        check.index("about(-1, 0)", () -> x.about(-1, 0));
        check.index("about(2, 0)", () -> x.about(2, 0));
        check.index("about(12, 9)", () -> x.about(12, 9));
        check.argument("about(0, -1)", () -> x.about(0, -1));
        check.argument("about(0, 3)", () -> x.about(0, 3));
        x.died(0, 1);
        check.same("about(0, 0)", 0, x.about(0, 0));
        check.same("about(0, 1)", 0, x.about(0, 1));
        check.same("about(0, 2)", -1, x.about(0, 2));
        check.same("about(1, 0)", 30, x.about(1, 0));
        check.same("about(1, 1)", 1, x.about(1, 1));
        check.same("about(1, 2)", 0, x.about(1, 2));
        check.argument("about(0, 3) of a dead one", () -> x.about(0, 3));
    }

    private static void fame(Check check) {
        FeastLedger x = Check.ledger(100, 100, 100);
        Check.tell(x, "return 1/1 within 1;witness 3;", 0);
        check.same("fame at first", 0, x.fame(0));
        x.give(0, 1, 10);
        check.same("fame of a gift", 10, x.fame(0));
        check.same("fame of the other", 0, x.fame(1));
        x.give(1, 0, 4);
        check.same("fame of an answer", 4, x.fame(1));
        x.lend(1, 2, 30);
        check.same("fame of a loan", 4, x.fame(1));
        x.feast(2, 1, 7, 2);
        check.same("fame of a feast", 7, x.fame(2));
        x.copper(2, 50);
        check.same("fame of a copper", 7, x.fame(2));
        x.breaks(0);
        check.same("fame of a broken copper", 7, x.fame(2));
        x.pass(0, 0);
        check.same("fame of a passed copper", 51, x.fame(2));
        x.died(2, 1);
        check.same("fame of a dead one", 51, x.fame(2));
        check.same("fame of its heir", 4, x.fame(1));
        check.index("fame(-1)", () -> x.fame(-1));
        check.index("fame(3)", () -> x.fame(3));
    }

    private static void rank(Check check) {
        FeastLedger x = Check.ledger(100, 100, 100, 100, 100);
        places(check, x, 0, 1, 2, 3, 4);
        x.give(3, 0, 10);
        places(check, x, 1, 2, 3, 0, 4);
        x.give(1, 0, 10);
        places(check, x, 2, 0, 3, 1, 4);
        x.give(4, 0, 11);
        places(check, x, 3, 1, 4, 2, 0);
        x.died(1, 0);
        places(check, x, 2, -1, 3, 1, 0);
        x.died(4, 2);
        places(check, x, 1, -1, 2, 0, -1);
    }

    private static void places(Check check, FeastLedger x, int... due) {
        for (int i = 0; i < due.length; i++) {
            check.same("about(" + i + ", 2)", due[i], x.about(i, 2));
        }
    }

    private static void fameBeyondInt(Check check) {
        FeastLedger x = Check.ledger(1_000_000, 1_000_000, 1_000_000, 1_000_000, 1_000_000);
        for (int i = 1; i < 5; i++) {
            x.give(i, 0, 1_000_000);
        }
        for (int i = 0; i < 220; i++) {
            x.give(0, 1, 5_000_000);
            x.give(1, 0, 5_000_000);
        }
        x.give(0, 1, 5_000_000);
        check.same("fame(0)", 1_105_000_000L, x.fame(0));
        check.same("fame(1)", 1_101_000_000L, x.fame(1));
        FeastLedger y = fullOfBlankets();
        for (int i = 0; i < 180; i++) {
            y.give(0, 1, 12_000_000);
            y.give(1, 0, 12_000_000);
        }
        check.same("fame(0) beyond an int", 2_160_000_000L, y.fame(0));
        check.same("about(0, 2)", 1, y.about(0, 2));
        check.same("about(1, 2)", 0, y.about(1, 2));
    }

    private static FeastLedger fullOfBlankets() {
        FeastLedger x = new FeastLedger();
        x.chief(1_000_000);
        for (int i = 1; i < 12; i++) {
            x.chief(1_000_000);
            x.give(i, 0, 1_000_000);
        }
        return x;
    }

    private static void count(Check check) {
        FeastLedger x = Check.ledger(100, 100, 100);
        Check.tell(x, "return 1/1 within 1;", 0);
        Check.tell(x, "x", 0);
        x.give(0, 1, 10);
        x.lend(1, 2, 10);
        x.give(1, 0, 10);
        x.copper(0, 1);
        x.copper(1, 1);
        x.breaks(0);
        x.wait(7);
        x.feed(1, 2, 3, 4, 5);
        x.died(0, 2);
        int[] due = {3, 1, 2, 1, 2, 7, 20};
        for (int what = 0; what < due.length; what++) {
            check.same("count(" + what + ")", due[what], x.count(what));
        }
        check.same("count(-1)", -1, x.count(-1));
        check.same("count(7)", -1, x.count(7));
        check.same("count(MIN)", -1, x.count(Integer.MIN_VALUE));
        check.same("count(MAX)", -1, x.count(Integer.MAX_VALUE));
    }
}
