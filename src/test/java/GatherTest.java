import java.util.ArrayList;
import java.util.List;

/** Promises 20 gather, 21 hold: by hand, and against all sets of chiefs in many made-up ledgers. */
public final class GatherTest {
    private static final Check CHECK = new Check();
    private static final int LEDGERS = 400;

    public static void main(String[] args) {
        alone();
        alongDebts();
        asMuchAsIsLeft();
        giftsDueByTheYear();
        loansAsTheyAreNow();
        thoseWhoLive();
        roundAndRound();
        backAlongAPath();
        backBeyondAPath();
        largeDebts();
        leastSet();
        itDiedAndGathers();
        itDiedAndIsHeldBack();
        noSuchChiefGathers();
        noSuchChiefIsHeldBack();
        changesNothing();
        CHECK.sentence("GATHER and HOLD of made-up ledgers");
        MadeUp madeUp = new MadeUp();
        for (int i = 0; i < LEDGERS; i++) {
            madeUp.againstAllSets(i);
        }
        CHECK.end();
    }

    private static void told(Ledger x, int chief, int year, long gather, int hold) {
        String of = "(" + chief + ", " + year + ")";
        // in this order, so that neither could lean on what the other one worked out
        CHECK.same("hold" + of, hold, x.hold(chief, year));
        CHECK.same("gather" + of, gather, x.gather(chief, year));
        CHECK.same("hold" + of, hold, x.hold(chief, year));
        CHECK.same("gather" + of, gather, x.gather(chief, year));
    }

    private static void alone() {
        CHECK.sentence("GATHER: the most BLANKETS that it could have, there being no DEBTS");
        Ledger x = Ledger.of(7, 0, 5);
        told(x, 0, 0, 7, 1);
        told(x, 1, 0, 0, 2);
        told(x, 2, 0, 5, 4);
        told(Ledger.of(3), 0, 0, 3, 1);
        Ledger full = Ledger.of(0, 1, 2, 3, 4, 5, 6, 7, 8, 9, 10, 11);
        told(full, 11, 1000, 11, 1 << 11);
    }

    private static void alongDebts() {
        CHECK.sentence("GATHER: if those who live hand on BLANKETS to one another along DEBTS");
        Ledger x = Ledger.of(10, 10, 10, 10);
        // 0 owes 1, 1 owes 2, 2 owes 3
        x.lend(1, 0, 10);
        x.lend(2, 1, 4);
        x.lend(3, 2, 9);
        told(x, 0, 0, 20, 1);
        told(x, 1, 0, 14, 2);
        told(x, 2, 0, 19, 4);
        told(x, 3, 0, 10, 8);
        x.give(2, 0, 13);
        // 2 has 2 of the 9 that it owes: 4 more come from 1, 6 in all
        told(x, 3, 0, 7, 12);
        x.give(1, 0, 4);
        told(x, 3, 0, 7, 12);
        x.give(0, 3, 37);
        told(x, 2, 0, 2, 4 + 2 + 1);
        told(x, 3, 0, 40, 15);
    }

    private static void asMuchAsIsLeft() {
        CHECK.sentence("GATHER: each as much as is left of it at most");
        Ledger x = Ledger.of(5, 1, 9);
        x.lend(0, 1, 5);
        x.give(1, 2, 2);
        // 1 has 4 of the 5 that it owes, then 5, then 6
        told(x, 0, 0, 4, 1 + 2);
        x.give(2, 1, 1);
        told(x, 0, 0, 5, 1);
        x.give(2, 1, 1);
        told(x, 0, 0, 5, 1);
        x.give(1, 0, 3);
        told(x, 0, 0, 5, 1);
        x.give(1, 0, 2);
        told(x, 0, 0, 5, 1);
        x.give(2, 1, 1);
        told(x, 0, 0, 5, 1);
    }

    private static void giftsDueByTheYear() {
        CHECK.sentence("GATHER: gifts' that are due by that YEAR");
        Ledger x = Ledger.of(100, 100, 100);
        Tape.tell(x, "return 1/1 within 2;", 0);
        x.give(0, 1, 10);
        x.wait(1);
        x.give(0, 1, 20);
        told(x, 0, Integer.MIN_VALUE, 70, 1);
        told(x, 0, -1, 70, 1);
        told(x, 0, 1, 70, 1);
        told(x, 0, 2, 80, 1);
        told(x, 0, 3, 100, 1);
        told(x, 0, 4, 100, 1);
        told(x, 0, Integer.MAX_VALUE, 100, 1);
        x.wait(50);
        // by that year, whatever the year is now
        told(x, 0, 1, 70, 1);
        told(x, 0, 2, 80, 1);
    }

    private static void loansAsTheyAreNow() {
        CHECK.sentence("GATHER: and loans' (as they are now)");
        Ledger x = Ledger.of(50, 100);
        Tape.tell(x, "loan 1/1;", 0);
        x.lend(0, 1, 10);
        told(x, 0, Integer.MIN_VALUE, 50, 1);
        told(x, 0, 0, 50, 1);
        told(x, 0, 3, 50, 1);
        told(x, 0, Integer.MAX_VALUE, 50, 1);
        x.wait(2);
        told(x, 0, 0, 80, 1);
        told(x, 0, 2, 80, 1);
        told(x, 0, 100, 80, 1);
    }

    private static void thoseWhoLive() {
        CHECK.sentence("GATHER: those who live; HOLD: sets of living CHIEFS");
        Ledger x = Ledger.of(10, 10, 10, 0);
        x.lend(0, 1, 5);
        x.lend(1, 2, 5);
        x.give(1, 3, 10);
        x.give(2, 3, 15);
        // all that was owed to and by 1 is between 0 and 2 now
        told(x, 0, 0, 5, 1 + 2 + 4);
        x.died(1, 2);
        told(x, 0, 0, 5, 1 + 4);
        x.died(3, 2);
        told(x, 0, 0, 10, 1);
        told(x, 2, 0, 25, 4);
    }

    private static void roundAndRound() {
        CHECK.sentence("GATHER: along DEBTS that go round");
        Ledger x = Ledger.of(10, 10, 10);
        x.lend(0, 1, 4);
        x.lend(1, 2, 4);
        x.lend(2, 0, 4);
        told(x, 0, 0, 14, 1);
        told(x, 1, 0, 14, 2);
        told(x, 2, 0, 14, 4);
        x.lend(1, 0, 10);
        told(x, 1, 0, 14, 2);
        told(x, 0, 0, 24, 1);
    }

    /** The first path found is the wrong one and must be taken back in part. */
    private static void backAlongAPath() {
        CHECK.sentence("GATHER: the most, also where the nearest way is not the best one");
        Ledger x = Ledger.of(6, 3, 0, 0, 0, 0);
        // 3 can go through 1 or 2, but 4 through 1 alone
        x.lend(0, 1, 3);
        x.lend(0, 2, 3);
        x.lend(1, 3, 3);
        x.lend(2, 3, 3);
        x.lend(1, 4, 3);
        x.give(3, 5, 3);
        told(x, 0, 0, 6, 1);
        told(x, 1, 0, 6, 2);
        told(x, 2, 0, 3, 4);
        told(x, 5, 0, 3, 32);
    }

    /** What came from 2 through 1 goes back to 2, and what 1 owes to 2 goes with it. */
    private static void backBeyondAPath() {
        CHECK.sentence("GATHER: the most, where two owe one another");
        Ledger x = Ledger.of(90, 90, 90, 90, 90, 90, 0);
        x.lend(0, 1, 5);
        x.lend(1, 2, 5);
        x.lend(2, 1, 10);
        x.lend(1, 3, 20);
        x.lend(4, 2, 20);
        x.lend(5, 4, 20);
        x.lend(0, 5, 20);
        for (int i = 0; i < 6; i++) {
            x.give(i, 6, x.about(i, 0));
        }
        x.give(6, 2, 5);
        x.give(6, 3, 20);
        told(x, 0, 0, 20, 1 + 4 + 16 + 32);
        told(x, 6, 0, 515, 64);
    }

    private static void largeDebts() {
        CHECK.sentence("GATHER: told exactly, where DEBTS come to more than an int");
        Ledger x = Ledger.of(1_000_000, 1_000_000, 0);
        Tape.tell(x, "return 1000/1 within 0;", 0);
        for (int i = 0; i < 4; i++) {
            x.give(0, 1, 250_000);
        }
        for (int i = 0; i < 6; i++) {
            x.lend(1, 2, 1);
        }
        Tape.tell(x, "loan 1000/1;", 0);
        x.wait(4);
        told(x, 0, 0, 2_000_000, 1 + 2 + 4);
        told(x, 1, 0, 2_000_000, 2 + 4);
        told(x, 2, 0, 6, 4);
    }

    private static void leastSet() {
        CHECK.sentence("HOLD: the least one (the one that is within all others)");
        Ledger x = Ledger.of(4, 4, 0, 0);
        x.lend(0, 1, 4);
        // the 4 that 1 owes are fewer than the 8 that it has
        told(x, 0, 0, 4, 1);
        x.give(1, 2, 4);
        // {0} and {0, 1} both come to 4
        told(x, 0, 0, 4, 1);
        x.give(1, 2, 1);
        // {0, 1} and {0, 1, 3} both come to 3
        told(x, 0, 0, 3, 1 + 2);
        x.give(1, 2, 3);
        told(x, 0, 0, 0, 1 + 2);
    }

    private static Ledger withADead() {
        Ledger x = Ledger.of(1, 2);
        x.lend(0, 1, 1);
        x.died(0, 1);
        return x;
    }

    private static void itDiedAndGathers() {
        CHECK.sentence("Promise 20: NONE: it DIED");
        CHECK.refused("gather(0, 0)", -1, GatherTest::withADead, x -> x.gather(0, 0));
        CHECK.refused("gather(0, 1000)", -1, GatherTest::withADead, x -> x.gather(0, 1000));
        CHECK.same("gather(1, 0) of its heir", 3, withADead().gather(1, 0));
        CHECK.same("gather(0, 0) of one that has nothing", 0, Ledger.of(0).gather(0, 0));
    }

    private static void itDiedAndIsHeldBack() {
        CHECK.sentence("Promise 21: NONE likewise");
        CHECK.refused("hold(0, 0)", -1, GatherTest::withADead, x -> x.hold(0, 0));
        CHECK.refused("hold(0, 1000)", -1, GatherTest::withADead, x -> x.hold(0, 1000));
        CHECK.same("hold(1, 0) of its heir", 2, withADead().hold(1, 0));
    }

    private static Ledger some() {
        Ledger x = Ledger.of(5, 5, 5);
        Tape.tell(x, "return 2/1 within 1;loan 1/1;", 0);
        x.lend(0, 1, 5);
        x.give(1, 2, 9);
        x.died(0, 2);
        return x;
    }

    private static Ledger twelve() {
        return Ledger.of(0, 1, 2, 3, 4, 5, 6, 7, 8, 9, 10, 11);
    }

    private static void noSuchChiefGathers() {
        CHECK.sentence("Promise 20: IndexOutOfBoundsException: no such CHIEF");
        CHECK.refusedByIndex("gather(-1, 0)", GatherTest::some, x -> x.gather(-1, 0));
        CHECK.refusedByIndex("gather(3, 0)", GatherTest::some, x -> x.gather(3, 0));
        CHECK.refusedByIndex("gather(12, 0)", GatherTest::twelve, x -> x.gather(12, 0));
        CHECK.refusedByIndex("gather(MIN, 0)", GatherTest::some, x -> x.gather(Integer.MIN_VALUE, 0));
        CHECK.refusedByIndex("gather(MAX, 0)", GatherTest::some, x -> x.gather(Integer.MAX_VALUE, 0));
    }

    private static void noSuchChiefIsHeldBack() {
        CHECK.sentence("Promise 21: IndexOutOfBoundsException: no such CHIEF");
        CHECK.refusedByIndex("hold(-1, 0)", GatherTest::some, x -> x.hold(-1, 0));
        CHECK.refusedByIndex("hold(3, 0)", GatherTest::some, x -> x.hold(3, 0));
        CHECK.refusedByIndex("hold(12, 0)", GatherTest::twelve, x -> x.hold(12, 0));
        CHECK.refusedByIndex("hold(MIN, 0)", GatherTest::some, x -> x.hold(Integer.MIN_VALUE, 0));
        CHECK.refusedByIndex("hold(MAX, 0)", GatherTest::some, x -> x.hold(Integer.MAX_VALUE, 0));
    }

    private static void changesNothing() {
        CHECK.sentence("Promises 20 and 21: what could be gathered is told, none of it is handed on");
        CHECK.unchanged("gather(1, 1)", GatherTest::some, x -> x.gather(1, 1));
        CHECK.unchanged("hold(1, 1)", GatherTest::some, x -> x.hold(1, 1));
    }

    /** Ledgers made of calls by chance, the same ones in each run. */
    private static final class MadeUp {
        private long seed = 20_261_116L;
        private List<Check.Act> calls;
        private int size;
        private boolean[] lives;
        private int coppers;

        private int some(int below) {
            seed = seed * 6_364_136_223_846_793_005L + 1_442_695_040_888_963_407L;
            return (int) ((seed >>> 33) % below);
        }

        void againstAllSets(int number) {
            int blankets = makeUp();
            Replay ledger = new Replay(this::ledger);
            int[] has = new int[size];
            int all = 0;
            for (int i = 0; i < size; i++) {
                int chief = i;
                has[i] = (int) ledger.ask(x -> x.about(chief, 0));
                all += has[i];
            }
            CHECK.same("blankets in all of ledger " + number, blankets, all);
            int years = (int) ledger.ask(x -> x.count(5)) + 5;
            for (int year = -1; year < years; year += 1 + some(3)) {
                long[][] owed = owed(ledger, year);
                for (int chief = 0; chief < size; chief++) {
                    compare(ledger, chief, year, has, owed);
                }
            }
        }

        private Ledger ledger() {
            Ledger x = new Ledger();
            for (Check.Act call : calls) {
                call.on(x);
            }
            return x;
        }

        private int makeUp() {
            calls = new ArrayList<>();
            size = 2 + some(11);
            lives = new boolean[size];
            coppers = 0;
            int all = 0;
            for (int i = 0; i < size; i++) {
                int blankets = some(3) == 0 ? 0 : some(60);
                lives[i] = true;
                calls.add(x -> x.chief(blankets));
                all += blankets;
            }
            String first = "return " + some(4) + "/2 within " + some(4) + ";loan 1/" + (1 + some(9)) + ";";
            calls.add(x -> Tape.tell(x, first, 0));
            calls.add(x -> Tape.tell(x, "return 1/3 within 1;witness 2;", 2));
            int more = some(120);
            for (int i = 0; i < more; i++) {
                anyCall(some(size), some(size));
            }
            return all;
        }

        private void anyCall(int one, int other) {
            int n = 1 + some(12);
            if (one == other || !lives[one] || !lives[other]) {
                return;
            }
            switch (some(40)) {
                case 0 -> {
                    lives[one] = false;
                    calls.add(x -> x.died(one, other));
                }
                case 1, 2 -> calls.add(x -> x.wait(1));
                case 3, 4, 5 -> calls.add(x -> x.feast(one, 1 << other, n, 0));
                case 6 -> {
                    if (coppers < 30) {
                        coppers++;
                        calls.add(x -> x.pass(x.copper(one, n), other));
                    }
                }
                default -> calls.add(n % 2 == 0 ? x -> x.give(one, other, n) : x -> x.lend(one, other, n));
            }
        }

        private long[][] owed(Replay ledger, int year) {
            long[][] owed = new long[size][size];
            int debts = (int) ledger.ask(x -> x.count(2));
            for (int i = 0; i < debts; i++) {
                int debt = i;
                int debtor = (int) ledger.ask(x -> x.debt(debt, 0));
                int creditor = (int) ledger.ask(x -> x.debt(debt, 1));
                boolean loan = ledger.ask(x -> x.debt(debt, 3)) == 1;
                if (loan || ledger.ask(x -> x.debt(debt, 4)) <= year) {
                    owed[debtor][creditor] += ledger.ask(x -> x.debt(debt, 2));
                }
            }
            return owed;
        }

        private void compare(Replay ledger, int chief, int year, int[] has, long[][] owed) {
            long least = -1;
            int within = -1;
            for (int set = 0; lives[chief] && set < 1 << size; set++) {
                if ((set >> chief & 1) == 1 && allLive(set)) {
                    long comes = comesTo(set, has, owed);
                    within = least == -1 || comes < least ? set : comes == least ? within & set : within;
                    least = least == -1 ? comes : Math.min(least, comes);
                }
            }
            String of = "(" + chief + ", " + year + ")";
            CHECK.same("gather" + of, least, ledger.ask(x -> x.gather(chief, year)));
            CHECK.same("hold" + of, within, ledger.ask(x -> x.hold(chief, year)));
        }

        private boolean allLive(int set) {
            for (int i = 0; i < size; i++) {
                if ((set >> i & 1) == 1 && !lives[i]) {
                    return false;
                }
            }
            return true;
        }

        private static long comesTo(int set, int[] has, long[][] owed) {
            long sum = 0;
            for (int i = 0; i < has.length; i++) {
                if ((set >> i & 1) == 1) {
                    sum += has[i];
                    for (int j = 0; j < has.length; j++) {
                        sum += (set >> j & 1) == 1 ? 0 : owed[j][i];
                    }
                }
            }
            return sum;
        }
    }
}
