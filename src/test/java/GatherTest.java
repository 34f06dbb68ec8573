/** Promises 20 gather, 21 hold: by hand, and against all sets of chiefs in many made-up ledgers. */
public final class GatherTest {
    private static final int LEDGERS = 400;

    private long seed = 20_261_116L;
    private final Check check = new Check();

    public static void main(String[] args) {
        GatherTest test = new GatherTest();
        test.alone();
        test.along();
        test.dueByTheYear();
        test.largeDebts();
        test.backAlongAPath();
        test.exceptions();
        for (int i = 0; i < LEDGERS; i++) {
            test.madeUp(i);
        }
        test.check.end();
    }

    private void told(FeastLedger x, int chief, int year, long gather, int hold) {
        String of = "(" + chief + ", " + year + ")";
        // in this order, so that neither could lean on what the other one worked out
        check.same("hold" + of, hold, x.hold(chief, year));
        check.same("gather" + of, gather, x.gather(chief, year));
        check.same("hold" + of, hold, x.hold(chief, year));
        check.same("gather" + of, gather, x.gather(chief, year));
    }

    private void alone() {
        FeastLedger x = Check.ledger(7, 0, 5);
        told(x, 0, 0, 7, 1);
        told(x, 1, 0, 0, 2);
        told(x, 2, 0, 5, 4);
    }

    private void along() {
        FeastLedger x = Check.ledger(10, 10, 10, 10);
        // 0 owes 1, 1 owes 2, 2 owes 3
        x.lend(1, 0, 10);
        x.lend(2, 1, 4);
        x.lend(3, 2, 9);
        told(x, 0, 0, 20, 1);
        told(x, 1, 0, 14, 2);
        told(x, 2, 0, 19, 4);
        told(x, 3, 0, 10, 8);
        String before = Check.state(x);
        told(x, 3, 0, 10, 8);
        check.unchanged("gather", before, x);
        x.give(2, 0, 13);
        // 2 has 2 of the 9 that it owes: 4 more come from 1, 6 in all
        told(x, 3, 0, 7, 12);
        x.give(1, 0, 4);
        told(x, 3, 0, 7, 12);
        x.give(0, 3, 37);
        told(x, 2, 0, 2, 4 + 2 + 1);
        told(x, 3, 0, 40, 15);
    }

    private void dueByTheYear() {
        FeastLedger x = Check.ledger(100, 100, 100);
        Check.tell(x, "return 1/1 within 2;", 0);
        x.give(0, 1, 10);
        x.wait(1);
        x.give(0, 1, 20);
        x.lend(0, 2, 40);
        told(x, 0, -1, 70, 1);
        told(x, 0, 1, 70, 1);
        told(x, 0, 2, 80, 1);
        told(x, 0, 3, 100, 1);
        told(x, 0, Integer.MAX_VALUE, 100, 1);
        told(x, 0, Integer.MIN_VALUE, 70, 1);
        told(x, 1, 3, 130, 2);
        x.wait(50);
        told(x, 0, 2, 80, 1);
    }

    private void largeDebts() {
        FeastLedger x = Check.ledger(1_000_000, 1_000_000, 0);
        Check.tell(x, "return 1000/1 within 0;", 0);
        for (int i = 0; i < 4; i++) {
            x.give(0, 1, 250_000);
        }
        for (int i = 0; i < 6; i++) {
            x.lend(1, 2, 1);
        }
        Check.tell(x, "loan 1000/1;", 0);
        x.wait(4);
        told(x, 0, 0, 2_000_000, 1 + 2 + 4);
        told(x, 1, 0, 2_000_000, 2 + 4);
        told(x, 2, 0, 6, 4);
    }

    /** The first path found is the wrong one and must be taken back in part. */
    private void backAlongAPath() {
        FeastLedger x = Check.ledger(6, 3, 0, 0, 0, 0);
        // 3 can go through 1 or 2, but 4 through 1 alone
        x.lend(0, 1, 3);
        x.lend(0, 2, 3);
        x.lend(1, 3, 3);
        x.lend(2, 3, 3);
        x.lend(1, 4, 3);
        x.give(3, 5, 3);
        told(x, 0, 0, 6, 1);
        told(x, 1, 0, 6, 2);
        told(x, 2, 0, 3, 4);
        told(x, 5, 0, 3, 32);
    }

    private void exceptions() {
        FeastLedger x = Check.ledger(1, 2);
        x.lend(0, 1, 1);
        check.index("gather(-1, 0)", () -> x.gather(-1, 0));
        check.index("gather(2, 0)", () -> x.gather(2, 0));
        check.index("gather(12, 0)", () -> x.gather(12, 0));
        check.index("hold(-1, 0)", () -> x.hold(-1, 0));
        check.index("hold(2, 0)", () -> x.hold(2, 0));
        check.index("hold(12, 0)", () -> x.hold(12, 0));
        x.died(0, 1);
        told(x, 0, 0, -1, -1);
        told(x, 1, 0, 3, 2);
    }

    private int some(int below) {
        seed = seed * 6_364_136_223_846_793_005L + 1_442_695_040_888_963_407L;
        return (int) ((seed >>> 33) % below);
    }

    private void madeUp(int number) {
        int size = 2 + some(11);
        FeastLedger x = new FeastLedger();
        for (int i = 0; i < size; i++) {
            x.chief(some(3) == 0 ? 0 : some(60));
        }
        Check.tell(x, "return " + some(4) + "/2 within " + some(4) + ";loan 1/" + (1 + some(9)) + ";", 0);
        Check.tell(x, "return 1/3 within 1;witness 2;", 2);
        int all = total(x);
        int calls = some(120);
        for (int i = 0; i < calls; i++) {
            anyCall(x, size);
        }
        check.same("blankets in all of ledger " + number, all, total(x));
        for (int year = -1; year < x.count(5) + 5; year += 1 + some(3)) {
            for (int chief = 0; chief < size; chief++) {
                againstAllSets(x, chief, year);
            }
        }
    }

    private static int total(FeastLedger x) {
        int all = 0;
        for (int i = 0; i < x.count(0); i++) {
            all += x.about(i, 0);
        }
        return all;
    }

    private void anyCall(FeastLedger x, int size) {
        int one = some(size);
        int other = some(size);
        if (one == other || x.about(one, 1) == 0 || x.about(other, 1) == 0) {
            return;
        }
        switch (some(40)) {
            case 0 -> x.died(one, other);
            case 1, 2 -> x.wait(1);
            case 3, 4, 5 -> x.feast(one, 1 << other, 1 + some(9), 0);
            case 6 -> {
                if (x.count(4) < 30) {
                    x.pass(x.copper(one, 1 + some(20)), other);
                }
            }
            default -> {
                int n = 1 + some(12);
                if (some(2) == 0) {
                    x.give(one, other, n);
                } else {
                    x.lend(one, other, n);
                }
            }
        }
    }

    private void againstAllSets(FeastLedger x, int chief, int year) {
        if (x.about(chief, 1) == 0) {
            told(x, chief, year, -1, -1);
            return;
        }
        int size = x.count(0);
        long[][] owed = new long[size][size];
        for (int i = 0; i < x.count(2); i++) {
            if (x.debt(i, 3) == 1 || x.debt(i, 4) <= year) {
                owed[x.debt(i, 0)][x.debt(i, 1)] += x.debt(i, 2);
            }
        }
        long least = Long.MAX_VALUE;
        int within = 0;
        for (int set = 0; set < 1 << size; set++) {
            if ((set >> chief & 1) == 1 && allLive(x, set)) {
                long comes = comesTo(x, owed, set);
                within = comes < least ? set : comes == least ? within & set : within;
                least = Math.min(least, comes);
            }
        }
        told(x, chief, year, least, within);
    }

    private static boolean allLive(FeastLedger x, int set) {
        for (int i = 0; i < x.count(0); i++) {
            if ((set >> i & 1) == 1 && x.about(i, 1) == 0) {
                return false;
            }
        }
        return true;
    }

    private static long comesTo(FeastLedger x, long[][] owed, int set) {
        long sum = 0;
        for (int i = 0; i < owed.length; i++) {
            if ((set >> i & 1) == 1) {
                sum += x.about(i, 0);
                for (int j = 0; j < owed.length; j++) {
                    sum += (set >> j & 1) == 1 ? 0 : owed[j][i];
                }
            }
        }
        return sum;
    }
}
