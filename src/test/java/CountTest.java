/** Promise 22: count. */
public final class CountTest {
    private static final Check CHECK = new Check();

    public static void main(String[] args) {
        counts();
        somethingIsLeft();
        others();
        CHECK.end();
    }

    private static Ledger used() {
        Ledger x = Ledger.of(100, 100, 100);
        Tape.tell(x, "return 1/1 within 1;", 0);
        Tape.tell(x, "x", 0);
        x.give(0, 1, 10);
        x.lend(1, 2, 10);
        x.give(1, 0, 10);
        x.copper(0, 1);
        x.copper(1, 1);
        x.breaks(0);
        x.wait(7);
        x.feed(1, 2, 3, 4, 5);
        x.died(0, 2);
        return x;
    }

    private static void counts() {
        CHECK.sentence("Promise 22: 0 CHIEFS, 1 CUSTOMS, 2 DEBTS in all, 3 those of which something is"
                + " left, 4 COPPERS, 5 the YEAR, 6 bytes of the TAPE");
        Ledger x = used();
        // the dead chief, the answered debt and the gone copper count, the faulty custom does not
        int[] due = {3, 1, 2, 1, 2, 7, 20};
        for (int what = 0; what < due.length; what++) {
            CHECK.same("count(" + what + ")", due[what], x.count(what));
        }
    }

    private static void somethingIsLeft() {
        CHECK.sentence("Promise 22: 3 those of which something is left");
        Ledger x = Ledger.of(10, 10, 10);
        x.lend(0, 1, 2);
        CHECK.same("a loan of 2", 1, x.count(3));
        x.give(1, 0, 1);
        CHECK.same("1 is left", 1, x.count(3));
        x.give(1, 0, 1);
        CHECK.same("nothing is left", 0, x.count(3));
        CHECK.same("in all", 1, x.count(2));
        x.lend(0, 1, 2);
        x.died(1, 0);
        CHECK.same("it is gone", 0, x.count(3));
        CHECK.same("in all", 2, x.count(2));
    }

    private static void others() {
        CHECK.sentence("Promise 22: NONE for others");
        CHECK.refused("count(-1)", -1, CountTest::used, x -> x.count(-1));
        CHECK.refused("count(7)", -1, CountTest::used, x -> x.count(7));
        CHECK.refused("count(MIN)", -1, CountTest::used, x -> x.count(Integer.MIN_VALUE));
        CHECK.refused("count(MAX)", -1, CountTest::used, x -> x.count(Integer.MAX_VALUE));
    }
}
