/** Promises 3 feed, 4 custom, 5 fault, 6 force. */
public final class CustomTest {
    private static final Check CHECK = new Check();
    private static final String GARBAGE = "\u00FF".repeat(20);

    public static void main(String[] args) {
        bytesOnTheTape();
        highestByteFirst();
        moreThanTwoHundred();
        firstBytesOfTheTape();
        tapeIsEmptyThen();
        numberOfACustom();
        faultLessTen();
        bytesOutOfRange();
        yearOutOfRange();
        twentyAtMost();
        placeOfTheFault();
        withoutFault();
        inForce();
        noneInForce();
        CHECK.end();
    }

    /** The latest custom() had a fault at 4. */
    private static Ledger fed() {
        Ledger x = new Ledger();
        Tape.tell(x, "loan", 0);
        Tape.feed(x, "loan 1/2;           ");
        return x;
    }

    private static Ledger fullTape() {
        Ledger x = new Ledger();
        Tape.feed(x, " ".repeat(190) + "witness 9;");
        return x;
    }

    private static Ledger twenty() {
        Ledger x = new Ledger();
        for (int i = 0; i < 20; i++) {
            x.custom(0, i);
        }
        x.feed(0, 0, 0, 0, 0);
        return x;
    }

    private static void bytesOnTheTape() {
        CHECK.sentence("Promise 3: twenty bytes come on the TAPE: how many there are");
        Ledger x = new Ledger();
        for (int i = 1; i <= 10; i++) {
            CHECK.same("feed", 20 * i, x.feed(-1, 0, 1, 2, 3));
            CHECK.same("count(6)", 20 * i, x.count(6));
        }
    }

    private static void highestByteFirst() {
        CHECK.sentence("Promise 3: of each number the highest first");
        Ledger x = Ledger.of(10, 10);
        // "witn", "ess ", "5;wi", "tnes", "s 7;"
        x.feed(0x7769746E, 0x65737320, 0x353B7769, 0x746E6573, 0x7320373B);
        CHECK.same("custom(20, 0)", 0, x.custom(20, 0));
        CHECK.same("what a witness gets", 7, x.feast(0, 0, 1, 2));
        // 0xEC is 'l' with the highest bit
        x.feed(0xEC6F616E, 0x20312F32, 0x3B000000, 0, 0);
        CHECK.same("a byte above 127", -9, x.custom(9, 0));
        CHECK.same("its place", 0, x.fault());
    }

    private static void moreThanTwoHundred() {
        CHECK.sentence("Promise 3: NONE, doing nothing, if there would be more than 200");
        Ledger x = new Ledger();
        CHECK.same("up to 180", 180, Tape.feed(x, " ".repeat(180)));
        CHECK.same("up to 200", 200, Tape.feed(x, "     witness 9;    x"));
        CHECK.same("beyond 200", -1, Tape.feed(x, GARBAGE));
        CHECK.same("beyond 200 again", -1, Tape.feed(x, GARBAGE));
        CHECK.same("count(6)", 200, x.count(6));
        CHECK.same("custom(200, 0)", -9, x.custom(200, 0));
        CHECK.same("the last byte is read", 199, x.fault());
        CHECK.refused("feed beyond 200", -1, CustomTest::fullTape, y -> Tape.feed(y, GARBAGE));
        Ledger full = fullTape();
        full.feed(-1, -1, -1, -1, -1);
        CHECK.same("what was there is a custom", 0, full.custom(200, 0));
        CHECK.same("there is room again", 20, full.feed(0, 0, 0, 0, 0));
    }

    private static void firstBytesOfTheTape() {
        CHECK.sentence("Promise 4: the first n bytes of the TAPE are a CUSTOM from a YEAR on");
        Ledger x = Ledger.of(10, 0);
        Tape.feed(x, "witness 1;witness 9;");
        CHECK.same("custom(10, 0)", 0, x.custom(10, 0));
        CHECK.same("what a witness gets", 1, x.feast(0, 0, 1, 2));
        Tape.feed(x, "witness 2;x");
        CHECK.same("a fault behind the first n", 1, x.custom(10, 0));
        Tape.feed(x, "  x");
        CHECK.same("custom(2, 0)", 2, x.custom(2, 0));
        Tape.feed(x, "x");
        CHECK.same("none of them", 3, x.custom(0, 0));
        Tape.feed(x, "witness 4;          ");
        CHECK.same("all of them", 4, x.custom(20, 0));
        Tape.feed(x, "witness 4;         x");
        CHECK.same("all of them, the last one wrong", -9, x.custom(20, 0));
    }

    private static void tapeIsEmptyThen() {
        CHECK.sentence("Promise 4: (empty then)");
        emptied("a whole text", "loan 1/2;", 9, 0);
        emptied("a part of the tape", "loan 1/2;loan 1/2;", 9, 0);
        emptied("nothing of it", "loan 1/2;", 0, 0);
        emptied("a faulty text", "loan 1/2", 8, -9);
    }

    private static void emptied(String what, String text, int n, int answer) {
        Ledger x = new Ledger();
        Tape.feed(x, text);
        CHECK.same(what, answer, x.custom(n, 0));
        CHECK.same("count(6) behind " + what, 0, x.count(6));
        CHECK.argument("custom(1, 0) behind " + what, () -> x.custom(1, 0));
        CHECK.same("feed behind " + what, 20, x.feed(0, 0, 0, 0, 0));
    }

    private static void numberOfACustom() {
        CHECK.sentence("Promise 4: its number");
        Ledger x = new Ledger();
        for (int i = 0; i < 20; i++) {
            // faulty ones get no number
            CHECK.same("a faulty custom", -9, Tape.tell(x, "witness x;", i));
            CHECK.same("a custom", i, Tape.tell(x, "witness 4;", i));
            CHECK.same("count(1)", i + 1, x.count(1));
        }
    }

    private static void faultLessTen() {
        CHECK.sentence("Promise 4: or its FAULT less 10");
        Ledger x = new Ledger();
        CHECK.same("fault 1", -9, Tape.tell(x, "x", 0));
        CHECK.same("fault 2", -8, Tape.tell(x, "loan 1/0;", 0));
        CHECK.same("fault 3", -7, Tape.tell(x, "loan 1/1;".repeat(9), 0));
        CHECK.same("count(1)", 0, x.count(1));
        CHECK.same("force(1000)", -1, x.force(1000));
    }

    private static void bytesOutOfRange() {
        CHECK.sentence("Promise 4: IllegalArgumentException: n is not 0 to the TAPE's bytes");
        CHECK.refusedByArgument("custom(-1, 0)", CustomTest::fed, x -> x.custom(-1, 0));
        CHECK.refusedByArgument("custom(21, 0)", CustomTest::fed, x -> x.custom(21, 0));
        CHECK.refusedByArgument("custom(MIN, 0)", CustomTest::fed, x -> x.custom(Integer.MIN_VALUE, 0));
        CHECK.refusedByArgument("custom(MAX, 0)", CustomTest::fed, x -> x.custom(Integer.MAX_VALUE, 0));
        CHECK.refusedByArgument("custom(1, 0), nothing fed", Ledger::new, x -> x.custom(1, 0));
        CHECK.refusedByArgument("custom(201, 0)", CustomTest::fullTape, x -> x.custom(201, 0));
        CHECK.same("custom(0, 0)", 0, fed().custom(0, 0));
        CHECK.same("custom(20, 0)", 0, fed().custom(20, 0));
        CHECK.same("custom(0, 0), nothing fed", 0, new Ledger().custom(0, 0));
        CHECK.same("custom(200, 0)", 0, fullTape().custom(200, 0));
    }

    private static void yearOutOfRange() {
        CHECK.sentence("Promise 4: IllegalArgumentException: or the YEAR not 0 to 1,000");
        CHECK.refusedByArgument("custom(9, -1)", CustomTest::fed, x -> x.custom(9, -1));
        CHECK.refusedByArgument("custom(9, 1001)", CustomTest::fed, x -> x.custom(9, 1001));
        CHECK.refusedByArgument("custom(9, MIN)", CustomTest::fed, x -> x.custom(9, Integer.MIN_VALUE));
        CHECK.refusedByArgument("custom(9, MAX)", CustomTest::fed, x -> x.custom(9, Integer.MAX_VALUE));
        Ledger x = fed();
        CHECK.same("custom(9, 0)", 0, x.custom(9, 0));
        CHECK.same("custom(0, 1000)", 1, x.custom(0, 1000));
        CHECK.same("force(0)", 0, x.force(0));
        CHECK.same("force(1000)", 1, x.force(1000));
    }

    private static void twentyAtMost() {
        CHECK.sentence("Promise 4: IllegalStateException: there are 20");
        CHECK.refusedByState("a 21st", CustomTest::twenty, x -> x.custom(0, 0));
        CHECK.refusedByState("a faulty 21st", CustomTest::twenty, x -> x.custom(1, 0));
        CHECK.refusedByArgument("a 21st of 21 bytes", CustomTest::twenty, x -> x.custom(21, 0));
        CHECK.refusedByArgument("a 21st of -1 bytes", CustomTest::twenty, x -> x.custom(-1, 0));
        CHECK.refusedByArgument("a 21st from 1001 on", CustomTest::twenty, x -> x.custom(0, 1001));
        Ledger x = twenty();
        CHECK.same("count(1)", 20, x.count(1));
        CHECK.same("force(18)", 18, x.force(18));
        CHECK.same("force(19)", 19, x.force(19));
        CHECK.same("force(1000)", 19, x.force(1000));
    }

    private static void placeOfTheFault() {
        CHECK.sentence("Promise 5: the place of the FAULT of the latest custom()");
        Ledger x = new Ledger();
        Tape.tell(x, "loan", 0);
        CHECK.same("fault()", 4, x.fault());
        CHECK.same("fault() again", 4, x.fault());
        x.feed(0, 0, 0, 0, 0);
        CHECK.same("fault() behind feed()", 4, x.fault());
        Tape.tell(x, "xyz", 0);
        CHECK.same("fault() at the first byte", 0, x.fault());
        x.custom(0, 0);
        Tape.feed(x, " ".repeat(199) + "x");
        x.custom(200, 0);
        CHECK.same("fault() at the last byte", 199, x.fault());
        Tape.feed(x, " ".repeat(195) + "loan ");
        x.custom(200, 0);
        CHECK.same("fault() at the greatest length", 200, x.fault());
    }

    private static void withoutFault() {
        CHECK.sentence("Promise 5: NONE without");
        Ledger x = new Ledger();
        CHECK.same("fault() at first", -1, x.fault());
        x.feed(-1, -1, -1, -1, -1);
        CHECK.same("fault() behind feed()", -1, x.fault());
        Tape.tell(x, "x", 0);
        x.custom(0, 0);
        CHECK.same("fault() behind an empty text", -1, x.fault());
        Tape.tell(x, "loan", 0);
        Tape.tell(x, "loan 1/2;", 0);
        CHECK.same("fault() behind a good text", -1, x.fault());
    }

    private static Ledger customs() {
        Ledger x = new Ledger();
        x.custom(0, 5);
        x.custom(0, 3);
        x.custom(0, 5);
        x.custom(0, 1000);
        x.custom(0, 4);
        return x;
    }

    private static void inForce() {
        CHECK.sentence("CUSTOMS: in a YEAR the one from the greatest YEAR that is not later, of these"
                + " the one told last");
        Ledger x = customs();
        CHECK.same("force(3)", 1, x.force(3));
        CHECK.same("force(4)", 4, x.force(4));
        CHECK.same("force(5)", 2, x.force(5));
        CHECK.same("force(6)", 2, x.force(6));
        CHECK.same("force(999)", 2, x.force(999));
        CHECK.same("force(1000)", 3, x.force(1000));
        CHECK.same("force(1001)", 3, x.force(1001));
        CHECK.same("force(MAX)", 3, x.force(Integer.MAX_VALUE));
        x.custom(0, 3);
        CHECK.same("force(3), told last", 5, x.force(3));
        CHECK.same("force(4)", 4, x.force(4));
        x.custom(0, 0);
        CHECK.same("force(0)", 6, x.force(0));
        CHECK.same("force(2)", 6, x.force(2));
        CHECK.same("force(3)", 5, x.force(3));
        x.wait(100);
        CHECK.same("force(3) in another year", 5, x.force(3));
    }

    private static void noneInForce() {
        CHECK.sentence("Promise 6: the CUSTOM in force in a YEAR; NONE");
        CHECK.refused("force(0), none told", -1, Ledger::new, x -> x.force(0));
        CHECK.refused("force(1000), none told", -1, Ledger::new, x -> x.force(1000));
        CHECK.refused("force(2)", -1, CustomTest::customs, x -> x.force(2));
        CHECK.refused("force(0)", -1, CustomTest::customs, x -> x.force(0));
        CHECK.refused("force(-1)", -1, CustomTest::customs, x -> x.force(-1));
        CHECK.refused("force(MIN)", -1, CustomTest::customs, x -> x.force(Integer.MIN_VALUE));
        Ledger x = new Ledger();
        x.custom(0, 0);
        CHECK.same("force(-1), one from 0 on", -1, x.force(-1));
        CHECK.same("force(0), one from 0 on", 0, x.force(0));
    }
}
