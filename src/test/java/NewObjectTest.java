/** Promise 1: a new object. */
public final class NewObjectTest {
    private static final Check CHECK = new Check();

    public static void main(String[] args) {
        noChiefs();
        noCustoms();
        noDebts();
        noCoppers();
        yearZero();
        emptyTape();
        rowsOfItsOwn();
        CHECK.end();
    }

    private static void noChiefs() {
        CHECK.sentence("Promise 1: no CHIEFS");
        CHECK.same("count(0)", 0, new Ledger().count(0));
        CHECK.refusedByIndex("about(0, 0)", Ledger::new, x -> x.about(0, 0));
        CHECK.refusedByIndex("fame(0)", Ledger::new, x -> x.fame(0));
        CHECK.refusedByIndex("gather(0, 0)", Ledger::new, x -> x.gather(0, 0));
        CHECK.refusedByIndex("hold(0, 0)", Ledger::new, x -> x.hold(0, 0));
        CHECK.refusedByIndex("give(0, 1, 1)", Ledger::new, x -> x.give(0, 1, 1));
        CHECK.refusedByIndex("lend(0, 1, 1)", Ledger::new, x -> x.lend(0, 1, 1));
        CHECK.refusedByIndex("copper(0, 1)", Ledger::new, x -> x.copper(0, 1));
        CHECK.refusedByIndex("feast(0, 0, 1, 0)", Ledger::new, x -> x.feast(0, 0, 1, 0));
        CHECK.refusedByIndex("died(0, 1)", Ledger::new, x -> x.died(0, 1));
        CHECK.same("the first chief", 0, new Ledger().chief(5));
    }

    private static void noCustoms() {
        CHECK.sentence("Promise 1: no CUSTOMS");
        Ledger x = Ledger.of(10, 10);
        CHECK.same("count(1)", 0, x.count(1));
        CHECK.same("force(0)", -1, x.force(0));
        CHECK.same("force(1000)", -1, x.force(1000));
        CHECK.same("fault()", -1, x.fault());
        CHECK.same("a gift", 0, x.give(0, 1, 5));
        CHECK.same("a gift's debt", 0, x.count(2));
        CHECK.same("what a witness gets", 0, x.feast(0, 0, 1, 2));
        CHECK.same("a loan", 0, x.lend(1, 0, 7));
        x.wait(3);
        CHECK.same("what a loan is later", 7, x.debt(0, 2));
        CHECK.same("the first custom", 0, x.custom(0, 0));
    }

    private static void noDebts() {
        CHECK.sentence("Promise 1: no DEBTS");
        Ledger x = Ledger.of(10, 10);
        CHECK.same("count(2)", 0, x.count(2));
        CHECK.same("count(3)", 0, x.count(3));
        CHECK.same("late(0)", -1, x.late(0));
        CHECK.index("debt(0, 0)", () -> x.debt(0, 0));
        CHECK.same("give(0, 1, 1)", 0, x.give(0, 1, 1));
        CHECK.same("gather(0, 1000)", 9, x.gather(0, 1000));
        CHECK.same("hold(0, 1000)", 1, x.hold(0, 1000));
        CHECK.same("the first debt", 0, x.lend(0, 1, 1));
    }

    private static void noCoppers() {
        CHECK.sentence("Promise 1: no COPPERS");
        Ledger x = Ledger.of(10, 10);
        CHECK.same("count(4)", 0, x.count(4));
        CHECK.index("copperTold(0, 0)", () -> x.copperTold(0, 0));
        CHECK.index("breaks(0)", () -> x.breaks(0));
        CHECK.index("pass(0, 0)", () -> x.pass(0, 0));
        CHECK.same("the first copper", 0, x.copper(1, 1));
    }

    private static void yearZero() {
        CHECK.sentence("Promise 1: YEAR 0");
        Ledger x = new Ledger();
        CHECK.same("count(5)", 0, x.count(5));
        CHECK.same("wait(0)", 0, x.wait(0));
        CHECK.same("wait(1)", 1, x.wait(1));
    }

    private static void emptyTape() {
        CHECK.sentence("Promise 1: a new object has nothing on its TAPE");
        Ledger x = new Ledger();
        CHECK.same("count(6)", 0, x.count(6));
        CHECK.argument("custom(1, 0)", () -> x.custom(1, 0));
        CHECK.same("the first feed", 20, x.feed(0, 0, 0, 0, 0));
    }

    private static void rowsOfItsOwn() {
        CHECK.sentence("Promise 1: a new object, while another one is in use");
        Ledger used = Ledger.of(5, 5);
        Tape.tell(used, "return 1/1 within 1;", 0);
        used.lend(0, 1, 1);
        used.copper(0, 1);
        used.wait(1);
        used.feed(0, 0, 0, 0, 0);
        Ledger x = new Ledger();
        for (int what = 0; what < 7; what++) {
            CHECK.same("count(" + what + ")", 0, x.count(what));
        }
        x.chief(9);
        CHECK.same("the other one's blankets", 4, used.about(0, 0));
    }
}
