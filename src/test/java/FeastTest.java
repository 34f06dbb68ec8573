/** Promise 13 feast. */
public final class FeastTest {
    private static final Check CHECK = new Check();

    public static void main(String[] args) {
        guestsAndWitnesses();
        guestsInOrder();
        answersDebts();
        nobodyComes();
        itHasFewer();
        oneDebtTooMany();
        theFirstOfThese();
        noSuchHost();
        bitsThatTellNoChief();
        theHost();
        oneThatIsBoth();
        sizeOutOfRange();
        oneDied();
        CHECK.end();
    }

    private static Ledger four() {
        Ledger x = Ledger.of(24, 0, 0, 0);
        Tape.tell(x, "return 1/1 within 3;witness 5;", 0);
        return x;
    }

    private static Ledger twelve() {
        return Ledger.of(9, 9, 9, 9, 9, 9, 9, 9, 9, 9, 9, 9);
    }

    private static Ledger rich() {
        return Ledger.of(1_000_000, 100, 100);
    }

    private static Ledger withADead() {
        Ledger x = Ledger.of(100, 100, 100, 100);
        x.died(1, 0);
        return x;
    }

    /** 398 debts: chief 1 owes 199 loans of 1 to chief 0, and 0 as many to 1. */
    private static Ledger nearlyFull() {
        Ledger x = Ledger.of(1000, 1000, 0, 0);
        Tape.tell(x, "return 1/1 within 3;witness 5;", 0);
        return x.fillDebts(398);
    }

    private static Ledger full() {
        Ledger x = Ledger.of(1000, 1000, 0, 0);
        Tape.tell(x, "return 1/1 within 3;witness 5;", 0);
        return x.fillDebts(400);
    }

    private static void guestsAndWitnesses() {
        CHECK.sentence("A FEAST: each of some guests is GIVEN so many BLANKETS; then each of some"
                + " witnesses gets what the CUSTOM in force tells, which is not GIVEN");
        Ledger x = Ledger.of(100, 0, 0, 0, 0);
        Tape.tell(x, "return 2/1 within 3;witness 4;", 0);
        Tape.tell(x, "return 2/1 within 3;witness 9;", 2);
        x.wait(1);
        CHECK.same("feast", 28, x.feast(0, 2 + 8, 10, 4 + 16));
        CHECK.blankets(x, 72, 10, 4, 10, 4);
        CHECK.same("count(2)", 2, x.count(2));
        CHECK.debt(x, 0, 1, 0, 20, 0, 4);
        CHECK.debt(x, 1, 3, 0, 20, 0, 4);
        CHECK.same("fame(0)", 20, x.fame(0));
        x.wait(1);
        CHECK.same("feast by the next custom", 18, x.feast(0, 0, 10, 4 + 16));
        CHECK.blankets(x, 54, 10, 13, 10, 13);
    }

    private static void guestsInOrder() {
        CHECK.sentence("A FEAST: each of some guests, in order; as many as there may be");
        Ledger x = Ledger.of(0, 0, 0, 0, 0, 1_000_000, 0, 0, 0, 0, 0, 0);
        Tape.tell(x, "return 1/1 within 3;", 0);
        CHECK.same("ten guests", 1_000_000, x.feast(5, 0x7DF, 100_000, 0x800));
        CHECK.same("count(2)", 10, x.count(2));
        int debt = 0;
        for (int guest = 0; guest < 11; guest++) {
            if (guest != 5) {
                CHECK.debt(x, debt, guest, 5, 100_000, 0, 3);
                debt++;
            }
        }
        CHECK.blankets(x, 100_000, 100_000, 100_000, 100_000, 100_000, 0);
        CHECK.same("fame(5)", 1_000_000, x.fame(5));
        Ledger y = Ledger.of(0, 0, 0, 0, 0, 0, 0, 0, 0, 0, 0, 22_000);
        Tape.tell(y, "witness 1000;", 0);
        CHECK.same("eleven witnesses", 11_000, y.feast(11, 0, 100_000, 0x7FF));
        CHECK.same("eleven guests", 11_000, y.feast(11, 0x7FF, 1000, 0));
        CHECK.blankets(y, 2000, 2000, 2000, 2000, 2000, 2000, 2000, 2000, 2000, 2000, 2000, 0);
        CHECK.same("fame(11)", 11_000, y.fame(11));
        Ledger z = Ledger.of(1_000_000, 1_000_000, 0, 0, 0, 0, 0, 0, 0, 0, 0, 0);
        z.give(1, 0, 1_000_000);
        CHECK.same("the greatest feast", 1_100_000, z.feast(0, 0xFFE, 100_000, 0));
        CHECK.same("about(0, 0)", 900_000, z.about(0, 0));
    }

    private static void answersDebts() {
        CHECK.sentence("A FEAST: each of some guests is GIVEN, so DEBTS are answered first");
        Ledger x = Ledger.of(100, 100, 100, 100);
        Tape.tell(x, "return 1/1 within 3;witness 5;", 0);
        x.lend(1, 0, 4);
        x.lend(2, 0, 10);
        x.lend(3, 0, 30);
        CHECK.same("feast", 25, x.feast(0, 2 + 4, 10, 8));
        CHECK.lefts(x, 0, 0, 30, 6);
        CHECK.debt(x, 3, 1, 0, 6, 0, 3);
        CHECK.same("fame(0)", 20, x.fame(0));
        CHECK.same("about(3, 0)", 75, x.about(3, 0));
    }

    private static void nobodyComes() {
        CHECK.sentence("Promise 13: how many BLANKETS went, with no guests or no witnesses");
        CHECK.refused("neither", 0, FeastTest::four, x -> x.feast(0, 0, 100_000, 0));
        CHECK.refused("neither, of none", 0, FeastTest::four, x -> x.feast(1, 0, 1, 0));
        CHECK.same("no witnesses", 4, four().feast(0, 2 + 4, 2, 0));
        CHECK.same("no guests", 10, four().feast(0, 0, 2, 2 + 4));
        Ledger x = Ledger.of(0, 10);
        CHECK.same("without any custom", 2, x.feast(1, 1, 2, 0));
        CHECK.same("a witness without any custom", 0, x.feast(1, 0, 1, 1));
        CHECK.blankets(x, 2, 8);
    }

    private static void itHasFewer() {
        CHECK.sentence("Promise 13: -1 as give(), for all of it: it has fewer; nothing changes");
        CHECK.refused("guests", -1, FeastTest::four, x -> x.feast(0, 2 + 4, 13, 0));
        CHECK.refused("one guest", -1, FeastTest::four, x -> x.feast(0, 2, 25, 0));
        CHECK.refused("guests and witnesses", -1, FeastTest::four, x -> x.feast(0, 2 + 4, 10, 8));
        CHECK.refused("a witness, of none", -1, FeastTest::four, x -> x.feast(1, 0, 1, 4));
        CHECK.same("just enough for a guest", 24, four().feast(0, 2, 24, 0));
        CHECK.same("just enough for guests", 24, four().feast(0, 2 + 4, 12, 0));
        Ledger x = four();
        CHECK.same("just enough for all", 24, x.feast(0, 2, 14, 4 + 8));
        CHECK.blankets(x, 0, 14, 5, 5);
        CHECK.same("of none", -1, x.feast(0, 2, 1, 0));
        CHECK.same("one too few for all", -1, four().feast(0, 2, 15, 4 + 8));
    }

    private static void oneDebtTooMany() {
        CHECK.sentence("Promise 13: -2 as give(), for all of it: a DEBT would be one too many; nothing"
                + " changes");
        CHECK.refused("a 399th to 401st", -2, FeastTest::nearlyFull,
                x -> x.feast(0, 2 + 4 + 8, 200, 0));
        Ledger x = nearlyFull();
        CHECK.same("a 399th and 400th", 597, x.feast(0, 2 + 4 + 8, 199, 0));
        CHECK.same("count(2)", 400, x.count(2));
        CHECK.debt(x, 398, 2, 0, 199, 0, 3);
        CHECK.debt(x, 399, 3, 0, 199, 0, 3);
        CHECK.refused("a 401st", -2, FeastTest::full, y -> y.feast(0, 4, 1, 0));
        CHECK.refused("a 401st behind an answer", -2, FeastTest::full, y -> y.feast(0, 2 + 4, 1, 0));
        CHECK.same("witnesses make none", 10, full().feast(0, 0, 1, 4 + 8));
        Ledger z = full();
        CHECK.same("answers make none", 200, z.feast(1, 1, 200, 0));
        CHECK.same("nothing is owed any more", -2, z.feast(1, 1, 1, 0));
        z.custom(0, 0);
        CHECK.same("without return", 3, z.feast(1, 1 + 4 + 8, 1, 0));
    }

    private static void theFirstOfThese() {
        CHECK.sentence("Promise 13: as give(): the first of these; nothing changes");
        CHECK.refused("fewer, and no room", -1, FeastTest::full, x -> x.feast(0, 4, 1001, 0));
        CHECK.refused("just enough, and no room", -2, FeastTest::full, x -> x.feast(0, 4, 1000, 0));
    }

    private static void noSuchHost() {
        CHECK.sentence("Promise 13: IndexOutOfBoundsException: no such CHIEF");
        CHECK.refusedByIndex("feast(-1, ..)", FeastTest::four, x -> x.feast(-1, 2, 1, 0));
        CHECK.refusedByIndex("feast(4, ..)", FeastTest::four, x -> x.feast(4, 2, 1, 0));
        CHECK.refusedByIndex("feast(4, 16, 0, 16)", FeastTest::four, x -> x.feast(4, 16, 0, 16));
        CHECK.refusedByIndex("feast(12, ..)", FeastTest::twelve, x -> x.feast(12, 2, 1, 0));
        CHECK.refusedByIndex("feast(32, ..)", FeastTest::four, x -> x.feast(32, 2, 1, 0));
        CHECK.refusedByIndex("feast(MIN, ..)", FeastTest::four,
                x -> x.feast(Integer.MIN_VALUE, 2, 1, 0));
        CHECK.same("the last host", 1, twelve().feast(11, 1, 1, 0));
    }

    private static void bitsThatTellNoChief() {
        CHECK.sentence("Promise 13: IllegalArgumentException: bits that tell no CHIEF");
        CHECK.refusedByArgument("a 5th guest", FeastTest::four, x -> x.feast(0, 16, 1, 0));
        CHECK.refusedByArgument("a 5th witness", FeastTest::four, x -> x.feast(0, 2, 1, 16));
        CHECK.refusedByArgument("a 5th guest too", FeastTest::four, x -> x.feast(0, 2 + 16, 1, 0));
        CHECK.refusedByArgument("a 13th guest", FeastTest::twelve, x -> x.feast(0, 1 << 12, 1, 0));
        CHECK.refusedByArgument("a 13th witness", FeastTest::twelve, x -> x.feast(0, 2, 1, 1 << 12));
        CHECK.refusedByArgument("the highest bit, a guest", FeastTest::four,
                x -> x.feast(0, Integer.MIN_VALUE, 1, 0));
        CHECK.refusedByArgument("the highest bit, a witness", FeastTest::four,
                x -> x.feast(0, 2, 1, Integer.MIN_VALUE));
        CHECK.refusedByArgument("the bit below it", FeastTest::four, x -> x.feast(0, 1 << 30, 1, 0));
        CHECK.refusedByArgument("all bits but the host's", FeastTest::four, x -> x.feast(0, -2, 1, 0));
        CHECK.same("the 4th guest", 1, four().feast(0, 8, 1, 0));
        CHECK.same("the 4th witness", 5, four().feast(0, 0, 1, 8));
        CHECK.same("the 12th guest", 1, twelve().feast(0, 1 << 11, 1, 0));
    }

    private static void theHost() {
        CHECK.sentence("Promise 13: IllegalArgumentException: or the host");
        CHECK.refusedByArgument("as a guest", FeastTest::rich, x -> x.feast(1, 2, 1, 0));
        CHECK.refusedByArgument("as one of them", FeastTest::rich, x -> x.feast(1, 1 + 2, 1, 4));
        CHECK.refusedByArgument("as a witness", FeastTest::rich, x -> x.feast(1, 1, 1, 2));
        CHECK.refusedByArgument("as a guest, the first", FeastTest::rich, x -> x.feast(0, 1, 1, 0));
        CHECK.refusedByArgument("as a guest, the last", FeastTest::rich, x -> x.feast(2, 4, 1, 0));
        CHECK.refusedByArgument("as a dead guest", FeastTest::withADead, x -> x.feast(1, 2, 1, 0));
    }

    private static void oneThatIsBoth() {
        CHECK.sentence("Promise 13: IllegalArgumentException: or one that is both");
        CHECK.refusedByArgument("one", FeastTest::rich, x -> x.feast(0, 2, 1, 2));
        CHECK.refusedByArgument("one of two", FeastTest::rich, x -> x.feast(0, 2 + 4, 1, 4));
        CHECK.refusedByArgument("a dead one", FeastTest::withADead, x -> x.feast(0, 2, 1, 2));
        CHECK.same("each is one", 1, rich().feast(0, 2, 1, 4));
    }

    private static void sizeOutOfRange() {
        CHECK.sentence("Promise 13: IllegalArgumentException: or size is not 1 to 100,000");
        CHECK.refusedByArgument("0", FeastTest::rich, x -> x.feast(0, 2, 0, 0));
        CHECK.refusedByArgument("-1", FeastTest::rich, x -> x.feast(0, 2, -1, 0));
        CHECK.refusedByArgument("100001", FeastTest::rich, x -> x.feast(0, 2, 100_001, 0));
        CHECK.refusedByArgument("MIN", FeastTest::rich, x -> x.feast(0, 2, Integer.MIN_VALUE, 0));
        CHECK.refusedByArgument("MAX", FeastTest::rich, x -> x.feast(0, 2, Integer.MAX_VALUE, 0));
        CHECK.refusedByArgument("0 for no guest", FeastTest::rich, x -> x.feast(0, 0, 0, 2));
        CHECK.refusedByArgument("0 for a dead one", FeastTest::withADead, x -> x.feast(0, 2, 0, 0));
        CHECK.same("1", 1, rich().feast(0, 2, 1, 0));
        CHECK.same("100000", 100_000, rich().feast(0, 2, 100_000, 0));
    }

    private static void oneDied() {
        CHECK.sentence("Promise 13: IllegalStateException: also one of all DIED");
        CHECK.refusedByState("the host", FeastTest::withADead, x -> x.feast(1, 1, 1, 0));
        CHECK.refusedByState("the host of nobody", FeastTest::withADead, x -> x.feast(1, 0, 1, 0));
        CHECK.refusedByState("a guest", FeastTest::withADead, x -> x.feast(0, 2, 1, 0));
        CHECK.refusedByState("one of two guests", FeastTest::withADead, x -> x.feast(0, 2 + 4, 1, 0));
        CHECK.refusedByState("a witness", FeastTest::withADead, x -> x.feast(0, 4, 1, 2));
        CHECK.refusedByState("a guest, and too few", FeastTest::withADead,
                x -> x.feast(0, 2, 100_000, 0));
        CHECK.same("all live", 2, withADead().feast(0, 4 + 8, 1, 0));
        Ledger x = withADead();
        x.died(0, 2);
        CHECK.state("the first chief, a guest", () -> x.feast(3, 1, 1, 0));
        CHECK.state("the first chief, a witness", () -> x.feast(3, 4, 1, 1));
        x.died(3, 2);
        CHECK.state("the last chief, a guest", () -> x.feast(2, 8, 1, 0));
    }
}
