/** Promises 9 copper, 10 pass, 11 breaks, 12 copperTold. */
public final class CopperTest {
    private static final Check CHECK = new Check();

    public static void main(String[] args) {
        numbers();
        noSuchOwner();
        worthOutOfRange();
        ownerDied();
        thirtyAtMost();
        worthIsGiven();
        passedGone();
        passedOneDebtTooMany();
        passedNoSuchCopper();
        passedNoSuchChief();
        passedToItsOwner();
        passedToADead();
        anEighth();
        lessThanAnEighthIsLeft();
        byOne();
        atZeroItIsGone();
        itWasGone();
        ofWhatItHadAtFirst();
        brokenNoSuch();
        told();
        toldNoSuch();
        toldAnotherWhat();
        CHECK.end();
    }

    /** Chief 2 died; copper 0 is chief 0's, copper 1 too, but gone. */
    private static Ledger some() {
        Ledger x = Ledger.of(10, 20, 30);
        Tape.tell(x, "return 1/1 within 4;", 0);
        x.copper(0, 10);
        x.copper(0, 1);
        x.breaks(1);
        x.died(2, 1);
        return x;
    }

    private static Ledger thirty() {
        Ledger x = Ledger.of(10, 20);
        for (int i = 0; i < 30; i++) {
            x.copper(i % 2, 1 + i);
        }
        return x;
    }

    /** 400 debts: 200 loans of 1 of chief 0 to 1, as many of chief 1 to 0; copper 3 is gone. */
    private static Ledger fullOfDebts() {
        Ledger x = Ledger.of(500, 500, 0);
        Tape.tell(x, "return 1/1 within 4;", 0);
        x.copper(2, 200);
        x.copper(1, 200);
        x.copper(1, 201);
        x.copper(2, 1);
        x.breaks(3);
        return x.fillDebts(400);
    }

    private static Ledger gone() {
        Ledger x = Ledger.of(1, 1);
        x.copper(1, 1);
        x.breaks(0);
        return x;
    }

    private static void numbers() {
        CHECK.sentence("Promise 9: a COPPER: its number");
        Ledger x = Ledger.of(10, 20);
        for (int i = 0; i < 30; i++) {
            CHECK.same("copper", i, x.copper(i % 2, 1 + i));
            CHECK.same("count(4)", i + 1, x.count(4));
        }
        for (int i = 0; i < 30; i++) {
            CHECK.same("its owner", i % 2, x.copperTold(i, 0));
            CHECK.same("its worth", 1 + i, x.copperTold(i, 1));
        }
        CHECK.blankets(x, 10, 20);
    }

    private static void noSuchOwner() {
        CHECK.sentence("Promise 9: IndexOutOfBoundsException: no such CHIEF");
        CHECK.refusedByIndex("copper(-1, 1)", CopperTest::some, x -> x.copper(-1, 1));
        CHECK.refusedByIndex("copper(3, 1)", CopperTest::some, x -> x.copper(3, 1));
        CHECK.refusedByIndex("copper(3, 0)", CopperTest::some, x -> x.copper(3, 0));
        CHECK.refusedByIndex("copper(MIN, 1)", CopperTest::some, x -> x.copper(Integer.MIN_VALUE, 1));
        CHECK.refusedByIndex("copper(MAX, 1)", CopperTest::some, x -> x.copper(Integer.MAX_VALUE, 1));
        CHECK.refusedByIndex("copper(2, 1), a 31st", CopperTest::thirty, x -> x.copper(2, 1));
    }

    private static void worthOutOfRange() {
        CHECK.sentence("Promise 9: IllegalArgumentException: the WORTH is not 1 to 1,000,000");
        CHECK.refusedByArgument("copper(0, 0)", CopperTest::some, x -> x.copper(0, 0));
        CHECK.refusedByArgument("copper(0, -1)", CopperTest::some, x -> x.copper(0, -1));
        CHECK.refusedByArgument("copper(0, 1000001)", CopperTest::some, x -> x.copper(0, 1_000_001));
        CHECK.refusedByArgument("copper(0, MIN)", CopperTest::some, x -> x.copper(0, Integer.MIN_VALUE));
        CHECK.refusedByArgument("copper(0, MAX)", CopperTest::some, x -> x.copper(0, Integer.MAX_VALUE));
        Ledger x = some();
        CHECK.same("copper(0, 1)", 2, x.copper(0, 1));
        CHECK.same("copper(0, 1000000)", 3, x.copper(0, 1_000_000));
        CHECK.same("copperTold(2, 1)", 1, x.copperTold(2, 1));
        CHECK.same("copperTold(3, 1)", 1_000_000, x.copperTold(3, 1));
    }

    private static void ownerDied() {
        CHECK.sentence("Promise 9: IllegalStateException: it DIED");
        CHECK.refusedByState("copper(2, 1)", CopperTest::some, x -> x.copper(2, 1));
        CHECK.refusedByArgument("copper(2, 0)", CopperTest::some, x -> x.copper(2, 0));
    }

    private static void thirtyAtMost() {
        CHECK.sentence("Promise 9: IllegalStateException: or there were 30");
        CHECK.refusedByState("a 31st", CopperTest::thirty, x -> x.copper(0, 1));
        CHECK.refusedByArgument("a 31st of 0", CopperTest::thirty, x -> x.copper(0, 0));
        Ledger x = thirty();
        CHECK.same("breaks(0)", 0, x.breaks(0));
        CHECK.state("a 31st, one being gone", () -> x.copper(0, 1));
        CHECK.same("count(4)", 30, x.count(4));
    }

    private static void worthIsGiven() {
        CHECK.sentence("COPPERS: passed to another CHIEF its WORTH is GIVEN (no BLANKETS go)");
        Ledger x = Ledger.of(10, 20, 30);
        Tape.tell(x, "return 3/2 within 4;", 0);
        x.lend(1, 0, 7);
        x.wait(2);
        x.copper(0, 20);
        CHECK.same("pass(0, 1)", 7, x.pass(0, 1));
        CHECK.same("its owner", 1, x.copperTold(0, 0));
        CHECK.same("its worth", 20, x.copperTold(0, 1));
        CHECK.debt(x, 0, 0, 1, 0, 1, -1);
        CHECK.debt(x, 1, 1, 0, 20, 0, 6);
        CHECK.blankets(x, 17, 13, 30);
        CHECK.same("fame(0)", 20, x.fame(0));
        CHECK.same("fame(1)", 0, x.fame(1));
        CHECK.same("pass on", 0, x.pass(0, 2));
        CHECK.same("its owner", 2, x.copperTold(0, 0));
        CHECK.debt(x, 2, 2, 1, 30, 0, 6);
        CHECK.same("pass back, a part of what is owed", 20, x.pass(0, 1));
        CHECK.same("pass back, just what is owed", 20, x.pass(0, 0));
        CHECK.lefts(x, 0, 0, 10);
        Ledger y = Ledger.of(0, 0);
        Tape.tell(y, "return 1000/1 within 0;", 0);
        y.copper(0, 1_000_000);
        CHECK.same("pass of the greatest worth", 0, y.pass(0, 1));
        CHECK.debt(y, 0, 1, 0, 1_000_000_000, 0, 0);
        CHECK.blankets(y, 0, 0);
    }

    private static void passedGone() {
        CHECK.sentence("Promise 10: -1: it is gone");
        CHECK.refused("pass(1, 1)", -1, CopperTest::some, x -> x.pass(1, 1));
        CHECK.refused("pass(3, 1), and no room", -1, CopperTest::fullOfDebts, x -> x.pass(3, 1));
        Ledger x = Ledger.of(0, 0);
        x.copper(0, 2);
        x.breaks(0);
        CHECK.same("a worth of 1 is not gone", 0, x.pass(0, 1));
        x.breaks(0);
        CHECK.same("a worth of 0 is gone", -1, x.pass(0, 0));
        CHECK.same("its owner", 1, x.copperTold(0, 0));
    }

    private static void passedOneDebtTooMany() {
        CHECK.sentence("Promise 10: -2 likewise: a DEBT would be one too many; nothing changes");
        CHECK.refused("pass(0, 1)", -2, CopperTest::fullOfDebts, x -> x.pass(0, 1));
        CHECK.refused("one beyond what is owed", -2, CopperTest::fullOfDebts, x -> x.pass(2, 0));
        Ledger x = fullOfDebts();
        CHECK.same("just what is owed", 200, x.pass(1, 0));
        CHECK.same("its owner", 0, x.copperTold(1, 0));
        CHECK.same("nothing is owed any more", -2, x.pass(2, 0));
        CHECK.same("count(2)", 400, x.count(2));
        x.custom(0, 0);
        CHECK.same("without return", 0, x.pass(0, 1));
        CHECK.same("its owner", 1, x.copperTold(0, 0));
        Ledger y = Ledger.of(500, 500, 0);
        Tape.tell(y, "return 1/1 within 4;", 0);
        y.copper(2, 5);
        y.fillDebts(399);
        CHECK.same("the 400th", 0, y.pass(0, 1));
        CHECK.debt(y, 399, 1, 2, 5, 0, 4);
    }

    private static void passedNoSuchCopper() {
        CHECK.sentence("Promise 10: IndexOutOfBoundsException: also no such COPPER");
        CHECK.refusedByIndex("pass(-1, 1)", CopperTest::some, x -> x.pass(-1, 1));
        CHECK.refusedByIndex("pass(2, 1)", CopperTest::some, x -> x.pass(2, 1));
        CHECK.refusedByIndex("pass(MIN, 1)", CopperTest::some, x -> x.pass(Integer.MIN_VALUE, 1));
        CHECK.refusedByIndex("pass(MAX, 1)", CopperTest::some, x -> x.pass(Integer.MAX_VALUE, 1));
        CHECK.refusedByIndex("pass(30, 1)", CopperTest::thirty, x -> x.pass(30, 1));
        CHECK.same("pass(29, 0)", 0, thirty().pass(29, 0));
    }

    private static void passedNoSuchChief() {
        CHECK.sentence("Promise 10: IndexOutOfBoundsException: no such CHIEF");
        CHECK.refusedByIndex("pass(0, -1)", CopperTest::some, x -> x.pass(0, -1));
        CHECK.refusedByIndex("pass(0, 3)", CopperTest::some, x -> x.pass(0, 3));
        CHECK.refusedByIndex("pass(0, MAX)", CopperTest::some, x -> x.pass(0, Integer.MAX_VALUE));
        CHECK.refusedByIndex("pass(1, 3), gone", CopperTest::some, x -> x.pass(1, 3));
        CHECK.same("pass(0, 1)", 0, some().pass(0, 1));
    }

    private static void passedToItsOwner() {
        CHECK.sentence("Promise 10: IllegalArgumentException: that CHIEF is its OWNER");
        CHECK.refusedByArgument("pass(0, 0)", CopperTest::some, x -> x.pass(0, 0));
        CHECK.refusedByArgument("pass(1, 0), gone", CopperTest::some, x -> x.pass(1, 0));
        Ledger x = some();
        x.pass(0, 1);
        CHECK.argument("pass(0, 1) again", () -> x.pass(0, 1));
        CHECK.same("pass(0, 0)", 10, x.pass(0, 0));
    }

    private static void passedToADead() {
        CHECK.sentence("Promise 10: IllegalStateException: one DIED");
        CHECK.refusedByState("pass(0, 2)", CopperTest::some, x -> x.pass(0, 2));
        CHECK.refusedByState("pass(1, 2), gone", CopperTest::some, x -> x.pass(1, 2));
    }

    /** What breaks() answers, time after time. */
    private static void worths(int first, int... due) {
        Ledger x = Ledger.of(1, 1);
        x.copper(1, first);
        for (int worth : due) {
            CHECK.same("breaks of " + first, worth, x.breaks(0));
            CHECK.same("worth of " + first, Math.max(worth, 0), x.copperTold(0, 1));
        }
    }

    private static void anEighth() {
        CHECK.sentence("BROKEN: its WORTH is less by an eighth of what it had at first, cut");
        worths(8, 7, 6, 5, 4, 3, 2, 1, 0);
        worths(15, 14, 13);
        worths(16, 14, 12, 10, 8, 6, 4, 2, 0);
        worths(23, 21, 19);
        worths(24, 21, 18);
        worths(80, 70, 60, 50, 40, 30, 20, 10, 0);
        worths(1_000_000, 875_000, 750_000, 625_000, 500_000, 375_000, 250_000, 125_000, 0);
    }

    private static void lessThanAnEighthIsLeft() {
        CHECK.sentence("BROKEN: its WORTH is less by an eighth; at 0 it is gone: there is none below 0");
        worths(17, 15, 13, 11, 9, 7, 5, 3, 1, 0, -1);
        worths(26, 23, 20, 17, 14, 11, 8, 5, 2, 0, -1);
        worths(31, 28, 25, 22, 19, 16, 13, 10, 7, 4, 1, 0, -1);
        worths(999_999, 875_000, 750_001, 625_002, 500_003, 375_004, 250_005, 125_006, 7, 0, -1);
    }

    private static void byOne() {
        CHECK.sentence("BROKEN: or by 1, if that is 0");
        worths(1, 0);
        worths(2, 1, 0);
        worths(7, 6, 5, 4, 3, 2, 1, 0);
    }

    private static void atZeroItIsGone() {
        CHECK.sentence("BROKEN: at 0 it is gone");
        Ledger x = Ledger.of(1, 1);
        x.copper(1, 17);
        for (int i = 0; i < 8; i++) {
            x.breaks(0);
        }
        CHECK.same("a worth of 1", 1, x.copperTold(0, 1));
        CHECK.same("is not gone", 0, x.pass(0, 0));
        CHECK.same("is broken to 0", 0, x.breaks(0));
        CHECK.same("is gone", -1, x.pass(0, 1));
        CHECK.same("copperTold(0, 1)", 0, x.copperTold(0, 1));
        CHECK.same("count(4)", 1, x.count(4));
    }

    private static void itWasGone() {
        CHECK.sentence("Promise 11: its WORTH then; -1: it was gone");
        CHECK.refused("breaks(0)", -1, CopperTest::gone, x -> x.breaks(0));
        Ledger x = Ledger.of(1);
        x.copper(0, 2);
        CHECK.same("a worth of 2", 1, x.breaks(0));
        CHECK.same("a worth of 1", 0, x.breaks(0));
        CHECK.same("gone", -1, x.breaks(0));
        CHECK.same("gone before", -1, x.breaks(0));
    }

    private static void ofWhatItHadAtFirst() {
        CHECK.sentence("BROKEN: of what it had at first, also when it was passed meanwhile");
        Ledger x = Ledger.of(0, 0);
        Tape.tell(x, "return 1/1 within 4;", 0);
        x.copper(0, 80);
        x.breaks(0);
        CHECK.same("pass(0, 1)", 0, x.pass(0, 1));
        CHECK.same("debt(0, 2)", 70, x.debt(0, 2));
        CHECK.same("fame(0)", 70, x.fame(0));
        CHECK.same("breaks(0)", 60, x.breaks(0));
        CHECK.same("pass(0, 0)", 60, x.pass(0, 0));
        CHECK.same("debt(0, 2)", 10, x.debt(0, 2));
    }

    private static void brokenNoSuch() {
        CHECK.sentence("Promise 11: IndexOutOfBoundsException: no such COPPER");
        CHECK.refusedByIndex("breaks(-1)", CopperTest::some, x -> x.breaks(-1));
        CHECK.refusedByIndex("breaks(2)", CopperTest::some, x -> x.breaks(2));
        CHECK.refusedByIndex("breaks(30)", CopperTest::thirty, x -> x.breaks(30));
        CHECK.refusedByIndex("breaks(MIN)", CopperTest::some, x -> x.breaks(Integer.MIN_VALUE));
        CHECK.refusedByIndex("breaks(MAX)", CopperTest::some, x -> x.breaks(Integer.MAX_VALUE));
        CHECK.same("breaks(29)", 27, thirty().breaks(29));
    }

    private static void told() {
        CHECK.sentence("Promise 12: 0 its OWNER, 1 its WORTH (0: gone)");
        Ledger x = Ledger.of(1, 1);
        x.copper(1, 2);
        CHECK.same("copperTold(0, 0)", 1, x.copperTold(0, 0));
        CHECK.same("copperTold(0, 1)", 2, x.copperTold(0, 1));
        x.breaks(0);
        CHECK.same("copperTold(0, 1)", 1, x.copperTold(0, 1));
        x.breaks(0);
        CHECK.same("copperTold(0, 0), gone", 1, x.copperTold(0, 0));
        CHECK.same("copperTold(0, 1), gone", 0, x.copperTold(0, 1));
    }

    private static void toldNoSuch() {
        CHECK.sentence("Promise 12: IndexOutOfBoundsException: no such COPPER");
        CHECK.refusedByIndex("copperTold(-1, 0)", CopperTest::some, x -> x.copperTold(-1, 0));
        CHECK.refusedByIndex("copperTold(2, 0)", CopperTest::some, x -> x.copperTold(2, 0));
        CHECK.refusedByIndex("copperTold(2, 2)", CopperTest::some, x -> x.copperTold(2, 2));
        CHECK.refusedByIndex("copperTold(30, 0)", CopperTest::thirty, x -> x.copperTold(30, 0));
        CHECK.refusedByIndex("copperTold(MAX, 0)", CopperTest::some,
                x -> x.copperTold(Integer.MAX_VALUE, 0));
        CHECK.same("copperTold(29, 1)", 30, thirty().copperTold(29, 1));
    }

    private static void toldAnotherWhat() {
        CHECK.sentence("Promise 12: IllegalArgumentException: another what");
        CHECK.refusedByArgument("copperTold(0, -1)", CopperTest::some, x -> x.copperTold(0, -1));
        CHECK.refusedByArgument("copperTold(0, 2)", CopperTest::some, x -> x.copperTold(0, 2));
        CHECK.refusedByArgument("copperTold(1, 2), gone", CopperTest::some, x -> x.copperTold(1, 2));
        CHECK.refusedByArgument("copperTold(0, MIN)", CopperTest::some,
                x -> x.copperTold(0, Integer.MIN_VALUE));
        CHECK.refusedByArgument("copperTold(0, MAX)", CopperTest::some,
                x -> x.copperTold(0, Integer.MAX_VALUE));
    }
}
