/** What a call changes that is answered: just what the document tells, and nothing else. */
public final class ChangeTest {
    private static final Check CHECK = new Check();

    public static void main(String[] args) {
        chiefsAndCustoms();
        gifts();
        loans();
        coppers();
        feasts();
        deaths();
        years();
        queries();
        CHECK.end();
    }

    /**
     * Year 1. Chief 3 died; the others have 90, 200 and 710 blankets, and 0, 10 and 0 fame. Chief 1 owes
     * chief 0 a loan's 15, chief 2 owes chief 1 a gift's 15, due in year 2. Copper 0 is chief 0's, copper 1
     * chief 1's. The latest custom() had a fault at 4; a good text is on the tape.
     */
    private static Ledger some() {
        Ledger x = Ledger.of(100, 200, 300, 400);
        Tape.tell(x, "return 3/2 within 2;loan 1/2;witness 4;", 0);
        x.copper(0, 80);
        x.copper(1, 8);
        x.lend(0, 1, 10);
        x.give(1, 2, 10);
        x.died(3, 2);
        x.wait(1);
        Tape.tell(x, "loan", 0);
        Tape.feed(x, "witness 9;          ");
        return x;
    }

    private static void chiefsAndCustoms() {
        CHECK.sentence("Promises 2 to 4: what chief(), feed() and custom() change, and nothing else");
        CHECK.changes("chief(7)", 4, ChangeTest::some, x -> x.chief(7),
                "count(0) = 5", "about(4, 0) = 7", "about(4, 1) = 1", "about(4, 2) = 3", "fame(4) = 0");
        CHECK.changes("feed of zeros", 40, ChangeTest::some, x -> x.feed(0, 0, 0, 0, 0),
                "count(6) = 40", "custom(40, 0) = -9", "fault() of the tape = 20");
        CHECK.changes("custom(10, 5)", 1, ChangeTest::some, x -> x.custom(10, 5),
                "count(1) = 2", "count(6) = 0", "force(5) = 1", "force(10) = 1", "force(100) = 1",
                "force(1000) = 1", "fault() = -1", "custom(0, 0) = 2");
        CHECK.changes("custom(9, 5), faulty", -9, ChangeTest::some, x -> x.custom(9, 5),
                "count(6) = 0", "fault() = 9", "custom(0, 0) = 1");
    }

    private static void gifts() {
        CHECK.sentence("Promise 7: what give() changes, and nothing else");
        CHECK.changes("give(0, 1, 10)", 0, ChangeTest::some, x -> x.give(0, 1, 10),
                "about(0, 0) = 80", "about(1, 0) = 210", "fame(0) = 10", "about(0, 2) = 0", "about(1, 2) = 1",
                "count(2) = 3", "count(3) = 3", "debt(2, 0) = 1", "debt(2, 1) = 0", "debt(2, 2) = 15",
                "debt(2, 3) = 0", "debt(2, 4) = 3");
        CHECK.changes("give(1, 0, 20), more than it owes", 15, ChangeTest::some, x -> x.give(1, 0, 20),
                "about(1, 0) = 180", "about(0, 0) = 110", "fame(1) = 30", "debt(0, 2) = 0", "count(2) = 3",
                "debt(2, 0) = 0", "debt(2, 1) = 1", "debt(2, 2) = 8", "debt(2, 3) = 0", "debt(2, 4) = 3");
        CHECK.changes("give(2, 1, 15), what it owes", 15, ChangeTest::some, x -> x.give(2, 1, 15),
                "about(2, 0) = 695", "about(1, 0) = 215", "fame(2) = 15", "about(2, 2) = 0", "about(1, 2) = 1",
                "about(0, 2) = 2", "debt(1, 2) = 0", "count(3) = 1");
    }

    private static void loans() {
        CHECK.sentence("Promise 8: what lend() changes, and nothing else");
        CHECK.changes("lend(2, 1, 10)", 2, ChangeTest::some, x -> x.lend(2, 1, 10),
                "about(2, 0) = 700", "about(1, 0) = 210", "count(2) = 3", "count(3) = 3", "debt(2, 0) = 1",
                "debt(2, 1) = 2", "debt(2, 2) = 10", "debt(2, 3) = 1", "debt(2, 4) = -1");
    }

    private static void coppers() {
        CHECK.sentence("Promises 9 to 11: what copper(), pass() and breaks() change, and nothing else");
        CHECK.changes("copper(2, 5)", 2, ChangeTest::some, x -> x.copper(2, 5),
                "count(4) = 3", "copperTold(2, 0) = 2", "copperTold(2, 1) = 5");
        CHECK.changes("pass(0, 1)", 0, ChangeTest::some, x -> x.pass(0, 1),
                "copperTold(0, 0) = 1", "fame(0) = 80", "about(0, 2) = 0", "about(1, 2) = 1", "count(2) = 3",
                "count(3) = 3", "debt(2, 0) = 1", "debt(2, 1) = 0", "debt(2, 2) = 120", "debt(2, 3) = 0",
                "debt(2, 4) = 3");
        CHECK.changes("pass(1, 0), less than is owed", 8, ChangeTest::some, x -> x.pass(1, 0),
                "copperTold(1, 0) = 0", "fame(1) = 18", "debt(0, 2) = 7");
        CHECK.changes("breaks(0)", 70, ChangeTest::some, x -> x.breaks(0), "copperTold(0, 1) = 70");
    }

    private static void feasts() {
        CHECK.sentence("Promise 13: what feast() changes, and nothing else");
        CHECK.changes("feast(0, 2, 10, 4)", 14, ChangeTest::some, x -> x.feast(0, 2, 10, 4),
                "about(0, 0) = 76", "about(1, 0) = 210", "about(2, 0) = 714", "fame(0) = 10",
                "about(0, 2) = 0", "about(1, 2) = 1", "count(2) = 3", "count(3) = 3", "debt(2, 0) = 1",
                "debt(2, 1) = 0", "debt(2, 2) = 15", "debt(2, 3) = 0", "debt(2, 4) = 3");
        CHECK.changes("feast(0, 0, 10, 0)", 0, ChangeTest::some, x -> x.feast(0, 0, 10, 0));
    }

    private static void deaths() {
        CHECK.sentence("Promise 14: what died() changes, and nothing else");
        CHECK.changes("died(1, 2)", 1, ChangeTest::some, x -> x.died(1, 2),
                "about(1, 0) = 0", "about(1, 1) = 0", "about(1, 2) = -1", "about(2, 0) = 910",
                "about(0, 2) = 0", "about(2, 2) = 1", "copperTold(1, 0) = 2", "debt(0, 0) = 2",
                "debt(1, 2) = 0", "count(3) = 1");
    }

    private static void years() {
        CHECK.sentence("Promise 15: what wait() changes, and nothing else");
        CHECK.changes("wait(0)", 1, ChangeTest::some, x -> x.wait(0));
        CHECK.changes("wait(1)", 2, ChangeTest::some, x -> x.wait(1), "count(5) = 2", "debt(0, 2) = 22");
        CHECK.changes("wait(2)", 3, ChangeTest::some, x -> x.wait(2),
                "count(5) = 3", "debt(0, 2) = 33", "late(0) = 1");
    }

    private static void queries() {
        CHECK.sentence("Promises 5, 6, 12 and 16 to 22 change nothing");
        CHECK.changes("fault()", 4, ChangeTest::some, x -> x.fault());
        CHECK.changes("force(7)", 0, ChangeTest::some, x -> x.force(7));
        CHECK.changes("copperTold(0, 1)", 80, ChangeTest::some, x -> x.copperTold(0, 1));
        CHECK.changes("debt(0, 2)", 15, ChangeTest::some, x -> x.debt(0, 2));
        CHECK.changes("late(0)", -1, ChangeTest::some, x -> x.late(0));
        CHECK.changes("about(0, 0)", 90, ChangeTest::some, x -> x.about(0, 0));
        CHECK.changes("fame(1)", 10, ChangeTest::some, x -> x.fame(1));
        CHECK.changes("gather(0, 2)", 105, ChangeTest::some, x -> x.gather(0, 2));
        CHECK.changes("hold(0, 2)", 1, ChangeTest::some, x -> x.hold(0, 2));
        CHECK.changes("count(3)", 2, ChangeTest::some, x -> x.count(3));
    }
}
