/**
 * A FeastLedger that counts its calls: what an object answers beyond 512 of them is free, so no test
 * may look there.
 */
final class Ledger {
    static final int MOST_CALLS = 512;

    private final FeastLedger ledger = new FeastLedger();
    private int calls = 0;

    /** A ledger with chiefs that have so many blankets. */
    static Ledger of(int... blankets) {
        Ledger made = new Ledger();
        for (int some : blankets) {
            made.chief(some);
        }
        return made;
    }

    /** Makes loans of 1 by turns between chiefs 0 and 1, until there are so many debts. */
    Ledger fillDebts(int most) {
        for (int made = count(2); made < most; made++) {
            int from = made % 2;
            if (lend(from, 1 - from, 1) != made) {
                throw new AssertionError("a test's chiefs have too few blankets to fill a ledger");
            }
        }
        return this;
    }

    int callsLeft() {
        return MOST_CALLS - calls;
    }

    /** The object itself, for one call. */
    FeastLedger call() {
        calls++;
        if (calls > MOST_CALLS) {
            throw new AssertionError("a test makes more than 512 calls on one object");
        }
        return ledger;
    }

    int chief(int blankets) {
        return call().chief(blankets);
    }

    int feed(int a, int b, int c, int d, int e) {
        return call().feed(a, b, c, d, e);
    }

    int custom(int n, int year) {
        return call().custom(n, year);
    }

    int fault() {
        return call().fault();
    }

    int force(int year) {
        return call().force(year);
    }

    int give(int from, int to, int n) {
        return call().give(from, to, n);
    }

    int lend(int from, int to, int n) {
        return call().lend(from, to, n);
    }

    int copper(int owner, int worth) {
        return call().copper(owner, worth);
    }

    int pass(int copper, int to) {
        return call().pass(copper, to);
    }

    int breaks(int copper) {
        return call().breaks(copper);
    }

    int copperTold(int copper, int what) {
        return call().copperTold(copper, what);
    }

    int feast(int host, int guests, int size, int witnesses) {
        return call().feast(host, guests, size, witnesses);
    }

    int died(int chief, int heir) {
        return call().died(chief, heir);
    }

    int wait(int n) {
        return call().wait(n);
    }

    int debt(int debt, int what) {
        return call().debt(debt, what);
    }

    int late(int k) {
        return call().late(k);
    }

    int about(int chief, int what) {
        return call().about(chief, what);
    }

    long fame(int chief) {
        return call().fame(chief);
    }

    long gather(int chief, int year) {
        return call().gather(chief, year);
    }

    int hold(int chief, int year) {
        return call().hold(chief, year);
    }

    int count(int what) {
        return call().count(what);
    }
}
