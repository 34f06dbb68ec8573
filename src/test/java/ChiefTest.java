/** Promises 2 chief, 18 about, 19 fame, with RANK and FAME. */
public final class ChiefTest {
    private static final Check CHECK = new Check();

    public static void main(String[] args) {
        numbers();
        blanketsOutOfRange();
        twelveAtMost();
        blankets();
        lives();
        byFameThenByNumber();
        placeInRank();
        anotherWhat();
        noSuchChief();
        fameOfNoSuchChief();
        fameIsAllThatItGave();
        fameBeyondAnInt();
        CHECK.end();
    }

    private static Ledger two() {
        return Ledger.of(10, 20);
    }

    private static Ledger twelve() {
        return Ledger.of(0, 7, 14, 21, 28, 35, 42, 49, 56, 63, 70, 77);
    }

    private static void numbers() {
        CHECK.sentence("Promise 2: a CHIEF with so many BLANKETS: its number");
        Ledger x = new Ledger();
        for (int i = 0; i < 12; i++) {
            CHECK.same("chief", i, x.chief(i * 7));
            CHECK.same("count(0)", i + 1, x.count(0));
        }
        for (int i = 0; i < 12; i++) {
            CHECK.same("about(" + i + ", 0)", i * 7, x.about(i, 0));
        }
    }

    private static void blanketsOutOfRange() {
        CHECK.sentence("Promise 2: IllegalArgumentException: they are not 0 to 1,000,000");
        CHECK.refusedByArgument("chief(-1)", ChiefTest::two, x -> x.chief(-1));
        CHECK.refusedByArgument("chief(MIN)", ChiefTest::two, x -> x.chief(Integer.MIN_VALUE));
        CHECK.refusedByArgument("chief(1000001)", ChiefTest::two, x -> x.chief(1_000_001));
        CHECK.refusedByArgument("chief(MAX)", ChiefTest::two, x -> x.chief(Integer.MAX_VALUE));
        Ledger x = two();
        CHECK.same("chief(0)", 2, x.chief(0));
        CHECK.same("chief(1000000)", 3, x.chief(1_000_000));
        CHECK.blankets(x, 10, 20, 0, 1_000_000);
    }

    private static void twelveAtMost() {
        CHECK.sentence("Promise 2: IllegalStateException: there were 12");
        CHECK.same("the 12th", 11, Ledger.of(0, 1, 2, 3, 4, 5, 6, 7, 8, 9, 10).chief(11));
        CHECK.refusedByState("a 13th", ChiefTest::twelve, x -> x.chief(1));
        CHECK.refusedByState("a 13th without blankets", ChiefTest::twelve, x -> x.chief(0));
        CHECK.refusedByArgument("a 13th with -1", ChiefTest::twelve, x -> x.chief(-1));
        Ledger x = twelve();
        x.died(3, 4);
        CHECK.state("a 13th behind a death", () -> x.chief(1));
        CHECK.same("count(0)", 12, x.count(0));
    }

    private static void blankets() {
        CHECK.sentence("Promise 18: 0 BLANKETS");
        Ledger x = two();
        CHECK.blankets(x, 10, 20);
        x.give(0, 1, 10);
        CHECK.blankets(x, 0, 30);
        x.died(1, 0);
        CHECK.blankets(x, 30, 0);
    }

    private static void lives() {
        CHECK.sentence("Promise 18: 1 whether it lives (1, 0)");
        Ledger x = two();
        CHECK.same("about(0, 1)", 1, x.about(0, 1));
        CHECK.same("about(1, 1)", 1, x.about(1, 1));
        x.died(0, 1);
        CHECK.same("about(0, 1)", 0, x.about(0, 1));
        CHECK.same("about(1, 1)", 1, x.about(1, 1));
    }

    private static void byFameThenByNumber() {
        CHECK.sentence("RANK: by FAME, the greatest first, then by number");
        Ledger x = Ledger.of(100, 100, 100, 100, 100);
        places(x, 0, 1, 2, 3, 4);
        x.give(3, 0, 10);
        places(x, 1, 2, 3, 0, 4);
        x.give(1, 0, 9);
        places(x, 2, 1, 3, 0, 4);
        x.give(1, 0, 1);
        places(x, 2, 0, 3, 1, 4);
        x.give(4, 0, 11);
        places(x, 3, 1, 4, 2, 0);
    }

    private static void placeInRank() {
        CHECK.sentence("Promise 18: 2 its place in RANK, from 0 on (NONE: it DIED)");
        Ledger x = Ledger.of(100, 100, 100, 100, 100);
        x.give(4, 0, 11);
        x.give(3, 0, 10);
        x.give(1, 0, 10);
        places(x, 3, 1, 4, 2, 0);
        x.died(1, 0);
        places(x, 2, -1, 3, 1, 0);
        x.died(4, 2);
        places(x, 1, -1, 2, 0, -1);
        x.died(0, 2);
        x.died(3, 2);
        places(x, -1, -1, 0, -1, -1);
    }

    private static void places(Ledger x, int... due) {
        for (int i = 0; i < due.length; i++) {
            CHECK.same("about(" + i + ", 2)", due[i], x.about(i, 2));
        }
    }

    private static void anotherWhat() {
        CHECK.sentence("Promise 18: IllegalArgumentException: another what");
        CHECK.refusedByArgument("about(0, -1)", ChiefTest::two, x -> x.about(0, -1));
        CHECK.refusedByArgument("about(0, 3)", ChiefTest::two, x -> x.about(0, 3));
        CHECK.refusedByArgument("about(0, MIN)", ChiefTest::two, x -> x.about(0, Integer.MIN_VALUE));
        CHECK.refusedByArgument("about(0, MAX)", ChiefTest::two, x -> x.about(0, Integer.MAX_VALUE));
        Ledger x = two();
        x.died(0, 1);
        CHECK.argument("about(0, 3) of a dead one", () -> x.about(0, 3));
    }

    private static void noSuchChief() {
        CHECK.sentence("Promise 18: IndexOutOfBoundsException: no such CHIEF");
        CHECK.refusedByIndex("about(-1, 0)", ChiefTest::two, x -> x.about(-1, 0));
        CHECK.refusedByIndex("about(2, 0)", ChiefTest::two, x -> x.about(2, 0));
        CHECK.refusedByIndex("about(2, 3)", ChiefTest::two, x -> x.about(2, 3));
        CHECK.refusedByIndex("about(12, 0)", ChiefTest::twelve, x -> x.about(12, 0));
        CHECK.refusedByIndex("about(MAX, 0)", ChiefTest::twelve, x -> x.about(Integer.MAX_VALUE, 0));
        CHECK.same("about(11, 0)", 77, twelve().about(11, 0));
    }

    private static void fameOfNoSuchChief() {
        CHECK.sentence("Promise 19: IndexOutOfBoundsException: no such CHIEF");
        CHECK.refusedByIndex("fame(-1)", ChiefTest::two, x -> x.fame(-1));
        CHECK.refusedByIndex("fame(2)", ChiefTest::two, x -> x.fame(2));
        CHECK.refusedByIndex("fame(12)", ChiefTest::twelve, x -> x.fame(12));
        CHECK.refusedByIndex("fame(MIN)", ChiefTest::twelve, x -> x.fame(Integer.MIN_VALUE));
        CHECK.same("fame(11)", 0, twelve().fame(11));
    }

    private static void fameIsAllThatItGave() {
        CHECK.sentence("FAME of a CHIEF: all that it GAVE in all (also what answered DEBTS)");
        Ledger x = Ledger.of(100, 100, 100);
        Tape.tell(x, "return 1/1 within 1;witness 3;", 0);
        CHECK.same("fame at first", 0, x.fame(0));
        x.give(0, 1, 10);
        CHECK.same("of a gift", 10, x.fame(0));
        CHECK.same("of the one that got it", 0, x.fame(1));
        x.give(1, 0, 4);
        CHECK.same("of an answer", 4, x.fame(1));
        x.lend(1, 2, 30);
        CHECK.same("of a loan", 4, x.fame(1));
        x.feast(2, 1, 7, 2);
        CHECK.same("of a feast, without its witness", 7, x.fame(2));
        x.copper(2, 50);
        CHECK.same("of a copper", 7, x.fame(2));
        x.breaks(0);
        CHECK.same("of a broken copper", 7, x.fame(2));
        x.pass(0, 0);
        CHECK.same("of a passed copper", 51, x.fame(2));
        x.died(2, 1);
        CHECK.same("of a dead one", 51, x.fame(2));
        CHECK.same("of its heir", 4, x.fame(1));
    }

    private static void fameBeyondAnInt() {
        CHECK.sentence("Promise 19: FAME, as a long");
        Ledger x = new Ledger();
        for (int i = 0; i < 12; i++) {
            x.chief(1_000_000);
        }
        for (int i = 1; i < 12; i++) {
            x.give(i, 0, 1_000_000);
        }
        for (int i = 0; i < 179; i++) {
            x.give(0, 1, 12_000_000);
            x.give(1, 0, 12_000_000);
        }
        CHECK.same("fame(0)", 2_148_000_000L, x.fame(0));
        CHECK.same("fame(1)", 2_149_000_000L, x.fame(1));
        CHECK.same("fame(2)", 1_000_000, x.fame(2));
        CHECK.same("about(1, 2)", 0, x.about(1, 2));
        CHECK.same("about(0, 2)", 1, x.about(0, 2));
        CHECK.same("about(2, 2)", 2, x.about(2, 2));
    }
}
