/** An object is used for at most 512 calls: each call of the face as the last one of them. */
public final class SpanTest {
    private static final Check CHECK = new Check();

    public static void main(String[] args) {
        CHECK.sentence("An object is used for at most 512 calls after it has been made");
        asTheLastCall();
        refusedAsTheLastCall();
        allChangeSomething();
        CHECK.end();
    }

    /** An object with one call left. */
    private static Ledger nearTheEnd() {
        Ledger x = Ledger.of(10, 10, 10);
        Tape.tell(x, "return 2/1 within 1;loan 1/1;witness 1;", 0);
        x.copper(0, 16);
        x.give(0, 1, 3);
        x.lend(0, 2, 3);
        x.wait(2);
        x.feed(0x6C6F616E, 0x20312F32, 0x3B000000, 0, 0);
        while (x.callsLeft() > 1) {
            x.count(0);
        }
        return x;
    }

    private static void last(String call, long due, Check.Act act) {
        CHECK.same("the 512th, " + call, due, act.on(nearTheEnd()));
    }

    private static void asTheLastCall() {
        last("chief", 3, x -> x.chief(1));
        last("feed", 40, x -> x.feed(0, 0, 0, 0, 0));
        last("custom", 1, x -> x.custom(9, 0));
        last("fault", -1, x -> x.fault());
        last("force", 0, x -> x.force(0));
        last("give", 6, x -> x.give(1, 0, 7));
        last("lend", 2, x -> x.lend(1, 0, 7));
        last("copper", 1, x -> x.copper(1, 7));
        last("pass", 0, x -> x.pass(0, 1));
        last("breaks", 14, x -> x.breaks(0));
        last("copperTold", 16, x -> x.copperTold(0, 1));
        last("feast", 3, x -> x.feast(0, 2, 2, 4));
        last("died", 1, x -> x.died(0, 2));
        last("wait", 3, x -> x.wait(1));
        last("debt", 12, x -> x.debt(1, 2));
        last("late", 0, x -> x.late(0));
        last("about", 13, x -> x.about(1, 0));
        last("fame", 3, x -> x.fame(0));
        last("gather", 22, x -> x.gather(0, 1));
        last("hold", 1, x -> x.hold(0, 1));
        last("count", 2, x -> x.count(2));
    }

    private static void refusedAsTheLastCall() {
        last("give of fewer", -1, x -> x.give(0, 1, 5));
        last("lend of fewer", -1, x -> x.lend(0, 1, 5));
        last("feast of fewer", -1, x -> x.feast(0, 2, 5, 0));
        Ledger x = nearTheEnd();
        CHECK.index("the 512th, about", () -> x.about(3, 0));
        Ledger y = nearTheEnd();
        CHECK.argument("the 512th, custom", () -> y.custom(21, 0));
        Ledger z = Ledger.of(0, 1, 2, 3, 4, 5, 6, 7, 8, 9, 10, 11);
        for (int i = 12; i < Ledger.MOST_CALLS; i++) {
            CHECK.state("chief as call " + (i + 1), () -> z.chief(1));
        }
        CHECK.same("calls left", 0, z.callsLeft());
    }

    private static void allChangeSomething() {
        Ledger x = Ledger.of(5, 5);
        for (int i = 0; i < 508; i++) {
            CHECK.same("give", 0, x.give(i % 2, 1 - i % 2, 1 + i / 2 % 4));
        }
        // each gave 254 times 1 to 4 by turns
        CHECK.same("fame(0)", 633, x.fame(0));
        CHECK.same("fame(1)", 633, x.fame(1));
        CHECK.same("calls left", 0, x.callsLeft());
    }
}
