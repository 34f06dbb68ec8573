/** The text of a CUSTOM and its FAULTS, as the terms tell them. */
public final class TextTest {
    private static final Check CHECK = new Check();
    private static final String EIGHT = "loan 1/1;".repeat(8);

    public static void main(String[] args) {
        clauses();
        digits();
        words();
        blanks();
        noBlanksWithin();
        eightClauses();
        lastOfAKind();
        whatATextTells();
        withoutAClause();
        firstFromTheLeft();
        atItsFirstByte();
        cannotStand();
        endsTooEarly();
        cutAnywhere();
        numberAbove();
        zeroBehindTheStroke();
        ninthClause();
        leastOfOnePlace();
        CHECK.end();
    }

    private static void good(String text) {
        Ledger x = new Ledger();
        CHECK.same("custom '" + text + "'", 0, Tape.tell(x, text, 0));
        CHECK.same("fault '" + text + "'", -1, x.fault());
        CHECK.same("count(1) '" + text + "'", 1, x.count(1));
        CHECK.same("force '" + text + "'", 0, x.force(0));
    }

    private static void bad(String text, int fault, int place) {
        Ledger x = new Ledger();
        CHECK.same("custom '" + text + "'", fault - 10, Tape.tell(x, text, 0));
        CHECK.same("fault '" + text + "'", place, x.fault());
        CHECK.same("count(1) '" + text + "'", 0, x.count(1));
        CHECK.same("force '" + text + "'", -1, x.force(0));
    }

    private static void clauses() {
        CHECK.sentence("TEXT: { CLAUSE \";\" }: \"return\" N \"/\" N \"within\" N, \"loan\" N \"/\" N,"
                + " \"witness\" N");
        good("");
        good("return 3/2 within 2;");
        good("loan 1/10;");
        good("witness 4;");
        good("witness 4;loan 1/10;return 3/2 within 2;");
        bad(";", 1, 0);
        bad("loan 1/2;;", 1, 9);
        bad("loan 1/2 loan 1/2;", 1, 9);
        bad("loan 1/2, loan 1/2;", 1, 8);
        bad("loan 5;", 1, 6);
        bad("loan 5 6;", 1, 7);
        bad("loan 5//6;", 1, 7);
        bad("loan /6;", 1, 5);
        bad("loan 1/2 within 2;", 1, 9);
        bad("witness;", 1, 7);
        bad("witness 4/4;", 1, 9);
        bad("witness 4 4;", 1, 10);
        bad("return 1/2;", 1, 10);
        bad("return 1/2 3;", 1, 11);
        bad("return 1/2 within;", 1, 17);
        bad("return 1/2 within 3/4;", 1, 19);
        bad("return 1/2 within 3 loan 1/2;", 1, 20);
        bad("within 4;", 1, 0);
    }

    private static void digits() {
        CHECK.sentence("N: digits, as many as stand there, 0 to 1,000");
        good("return 0/1 within 0;");
        good("return 1000/1000 within 1000;");
        good("loan 0/1;");
        good("loan 1000/1000;");
        good("witness 0;");
        good("witness 1000;");
        good("witness 0123;witness 456;witness 789;");
        good("witness 00000000000000000000000000001000;");
        good("loan 0000/0001;");
        good("witness " + "0".repeat(191) + ";");
        // the signs just below and just above the digits
        bad("loan /2;", 1, 5);
        bad("loan 1:/2;", 1, 6);
        bad("loan :/2;", 1, 5);
        bad("witness 1.;", 1, 9);
        bad("loan -1/6;", 1, 5);
        bad("loan +1/6;", 1, 5);
        bad("loan x/6;", 1, 5);
        bad("loan 5/x;", 1, 7);
    }

    private static void words() {
        CHECK.sentence("WORDS: small letters, as many as stand there");
        good("return3/2within2;loan1/10;witness4;");
        bad("loans 1/2;", 1, 0);
        bad("loana 1/2;", 1, 0);
        bad("loanz 1/2;", 1, 0);
        bad("loanloan 1/2;", 1, 0);
        bad("loa 1/2;", 1, 0);
        bad("loam 1/2;", 1, 0);
        bad("moan 1/2;", 1, 0);
        bad("witnes 1;", 1, 0);
        bad("witnesss 1;", 1, 0);
        bad("retur 1/2 within 3;", 1, 0);
        bad("returns 1/2 within 3;", 1, 0);
        bad("return 1/2 withi 3;", 1, 11);
        bad("return 1/2 withins 3;", 1, 11);
        bad("return 1/2 loan 3;", 1, 11);
        // the signs just below and just above the small letters, and great ones
        bad("loan`1/2;", 1, 4);
        bad("loan{1/2;", 1, 4);
        bad("loanZ1/2;", 1, 4);
        bad("Loan 1/2;", 1, 0);
        bad("lOan 1/2;", 1, 0);
        bad("loaN 1/2;", 1, 0);
        bad("return 1/2 Within 3;", 1, 11);
    }

    private static void blanks() {
        CHECK.sentence("blanks (32) may stand ahead of all these, and at the end");
        good(" ");
        good(" ".repeat(200));
        good(" return 3/2 within 2;");
        good("return  3/2 within 2;");
        good("return 3 /2 within 2;");
        good("return 3/ 2 within 2;");
        good("return 3/2  within 2;");
        good("return 3/2 within  2;");
        good("return 3/2 within 2 ;");
        good("return 3/2 within 2; ");
        good("  loan  1  /  10  ;  witness  4  ;  ");
        good(" ".repeat(191) + "loan 1/2;");
        good("loan 1/2;" + " ".repeat(191));
        // no other sign is a blank: 31 and 33 beside it, tab, line's end, 0 and 160
        for (char sign : new char[] {31, 33, 9, 10, 13, 0, 160}) {
            bad(sign + "loan 1/2;", 1, 0);
            bad("loan" + sign + "1/2;", 1, 4);
            bad("loan 1" + sign + "/2;", 1, 6);
            bad("loan 1/" + sign + "2;", 1, 7);
            bad("loan 1/2" + sign + ";", 1, 8);
            bad("loan 1/2;" + sign, 1, 9);
        }
    }

    private static void noBlanksWithin() {
        CHECK.sentence("blanks may stand ahead of all these, not within one");
        bad("lo an 1/2;", 1, 0);
        bad("loan 1 0/2;", 1, 7);
        bad("loan 1/1 0;", 1, 9);
        bad("return 1/2 with in 3;", 1, 11);
        bad("witness 1 000;", 1, 10);
    }

    private static void eightClauses() {
        CHECK.sentence("At most 8 CLAUSES");
        good(EIGHT);
        good(EIGHT + "  ");
        good("return 1/1 within 1;witness 1;".repeat(4));
        bad(EIGHT + "loan 1/1;", 3, 72);
    }

    private static void lastOfAKind() {
        CHECK.sentence("of one kind the last one counts");
        Ledger x = Ledger.of(1000, 1000, 1000);
        Tape.tell(x, "return 1/1 within 1; loan 1/1; witness 1;"
                + "witness 5; loan 1/4; return 2/1 within 3;", 0);
        x.give(0, 1, 10);
        CHECK.debt(x, 0, 1, 0, 20, 0, 3);
        x.lend(0, 1, 100);
        x.wait(1);
        CHECK.same("the last loan", 125, x.debt(1, 2));
        CHECK.same("the last witness", 5, x.feast(2, 0, 1, 1));
        // the 8th is one of them, and a last one of 0 counts too
        Tape.tell(x, "witness 9;".repeat(7) + "witness 6;", 0);
        CHECK.same("the 8th witness", 6, x.feast(2, 0, 1, 1));
        Tape.tell(x, "witness 9;return 1/1 within 1;witness 0;return 0/1 within 1;", 0);
        CHECK.same("a last witness of 0", 0, x.feast(2, 0, 1, 1));
        x.give(2, 1, 10);
        CHECK.same("a last return of 0", 2, x.count(2));
        Tape.tell(x, "loan 1/1;loan 0/9;", 0);
        x.wait(1);
        CHECK.same("a last loan of 0", 125, x.debt(1, 2));
    }

    private static void whatATextTells() {
        CHECK.sentence("TEXT: each N of a CUSTOM is the one that stands there");
        Ledger x = Ledger.of(1000, 1000, 1000);
        Tape.tell(x, "witness 12; loan 34/56; return 78/90 within 23;", 0);
        x.give(0, 1, 100);
        CHECK.debt(x, 0, 1, 0, 87, 0, 23);
        x.lend(0, 1, 100);
        x.wait(1);
        CHECK.debt(x, 1, 1, 0, 160, 1, -1);
        CHECK.same("what a witness gets", 12, x.feast(2, 0, 1, 1));
        Ledger y = Ledger.of(1000, 1000, 1000);
        Tape.tell(y, "witness 0001000;loan 1000/0001;return 1000/999 within 1000;", 0);
        y.give(0, 1, 999);
        CHECK.debt(y, 0, 1, 0, 1000, 0, 1000);
        y.lend(0, 1, 1);
        y.wait(1);
        CHECK.same("a loan", 1001, y.debt(1, 2));
        CHECK.same("what a witness gets", 1000, y.feast(2, 0, 1, 1));
    }

    private static void withoutAClause() {
        CHECK.sentence("Without return a gift makes no debt, without loan loans do not grow, without"
                + " witness these get none");
        nothingOf("");
        nothingOf("  ");
        Ledger x = Ledger.of(100, 100, 100);
        Tape.tell(x, "loan 1/1;witness 2;", 0);
        CHECK.same("a gift without return", 0, x.give(0, 1, 10));
        CHECK.same("count(2) without return", 0, x.count(2));
        Tape.tell(x, "return 1/1 within 1;witness 2;", 0);
        x.lend(0, 1, 10);
        x.wait(1);
        CHECK.same("a loan without loan", 10, x.debt(0, 2));
        Tape.tell(x, "return 1/1 within 1;loan 1/1;", 0);
        CHECK.same("a feast without witness", 0, x.feast(2, 0, 1, 1));
        // neither an earlier custom nor a faulty text lends its clauses to a text without them
        Tape.tell(x, "return 9/1 within 9; loan 9/1; witness 9; x", 0);
        CHECK.same("custom(0, 1)", 3, x.custom(0, 1));
        CHECK.same("a gift", 0, x.give(2, 1, 10));
        CHECK.same("count(2)", 1, x.count(2));
        CHECK.same("a feast", 0, x.feast(2, 0, 1, 1));
        x.wait(1);
        CHECK.same("a loan", 10, x.debt(0, 2));
    }

    private static void nothingOf(String text) {
        Ledger x = Ledger.of(100, 100, 100);
        Tape.tell(x, text, 0);
        CHECK.same("a gift of '" + text + "'", 0, x.give(0, 1, 10));
        CHECK.same("count(2) of '" + text + "'", 0, x.count(2));
        x.lend(0, 1, 10);
        x.wait(1);
        CHECK.same("a loan of '" + text + "'", 10, x.debt(0, 2));
        CHECK.same("a witness of '" + text + "'", 0, x.feast(0, 0, 1, 2));
    }

    private static void firstFromTheLeft() {
        CHECK.sentence("FAULTS, the first from the left");
        bad("loan 1001 x", 2, 5);
        bad("loan 1001", 2, 5);
        bad("loan 5/0", 2, 7);
        bad("loan 5/0 x", 2, 7);
        bad("loan 1001/0;", 2, 5);
        bad("loan 1001/x;", 2, 5);
        bad("loan x/0;", 1, 5);
        bad("loan 1001/1001;", 2, 5);
        bad("witness 1001", 2, 8);
        bad("return 1/0 withi 1001;", 2, 9);
        bad("return 1/1001 within 1001;", 2, 9);
        bad("return 1001/0 within 1001", 2, 7);
        bad("loan 1/2; x; loan 1001/0;", 1, 10);
        bad("loan 1/0; x;", 2, 7);
        bad("loan 1/1;".repeat(7) + "loan 1/0;loan 1/1;", 2, 70);
        bad("loan 1/1;".repeat(7) + "loan 1/1,loan 1/1;", 1, 71);
        bad(EIGHT + "loan 1001/0;", 3, 72);
        bad(EIGHT + "loan x;", 3, 72);
    }

    private static void atItsFirstByte() {
        CHECK.sentence("FAULTS: at its first byte");
        bad("  gift 4;", 1, 2);
        bad("loan   1001/2;", 2, 7);
        bad("loan 5/  000;", 2, 9);
        bad("return 1/2   withou 3;", 1, 13);
        bad("loan 1/2   x;", 1, 11);
        bad(EIGHT + "   loan 1/1;", 3, 75);
    }

    private static void cannotStand() {
        CHECK.sentence("FAULTS: 1 what can't stand there");
        bad("x", 1, 0);
        bad("4;", 1, 0);
        bad("/", 1, 0);
        bad("gift 4;", 1, 0);
        bad("returnwithin 4;", 1, 0);
        bad("loan loan 1/2;", 1, 5);
        bad("loan 5:6;", 1, 6);
        bad("loan 1/2; ;", 1, 10);
        bad("loan 1/2;\u0000", 1, 9);
        bad("\u00ECoan 1/2;", 1, 0);
        bad("loan \u00B1/2;", 1, 5);
        bad("loan 1/2\u00BB", 1, 8);
        bad("loan 1/2;\u00A0", 1, 9);
        bad("loan 1/2;\u00FF", 1, 9);
    }

    private static void endsTooEarly() {
        CHECK.sentence("FAULTS: (at the length, if the text ends too early)");
        bad("loan", 1, 4);
        bad("loan  ", 1, 6);
        bad("loan 5", 1, 6);
        bad("loan 5 ", 1, 7);
        bad("loan 5/", 1, 7);
        bad("loan 5/ ", 1, 8);
        bad("loan 5/6", 1, 8);
        bad("loan 5/6 ", 1, 9);
        bad("witness", 1, 7);
        bad("witness ", 1, 8);
        bad("witness 4", 1, 9);
        bad("return", 1, 6);
        bad("return 1", 1, 8);
        bad("return 1/", 1, 9);
        bad("return 1/2", 1, 10);
        bad("return 1/2 ", 1, 11);
        bad("return 1/2 within", 1, 17);
        bad("return 1/2 within ", 1, 18);
        bad("return 1/2 within 3", 1, 19);
        bad("return 1/2 within 3  ", 1, 21);
        bad("loan 1/2;loan", 1, 13);
        bad(" ".repeat(195) + "loan ", 1, 200);
        // words are as many letters as stand there, so one that is cut short is a wrong word
        bad("l", 1, 0);
        bad("loa", 1, 0);
        bad("return 1/2 withi", 1, 11);
    }

    /** The text ends at n, whatever stands behind it on the tape. */
    private static void cutAnywhere() {
        CHECK.sentence("FAULTS: (at the length, if the text ends too early), with more on the TAPE");
        int[] places = {-1, 0, 0, 0, 0, 0, 6, 7, 8, 9, 10, 11, 11, 11, 11, 11, 11, 17, 18, 19, -1};
        for (int n = 0; n < places.length; n++) {
            Ledger x = new Ledger();
            Tape.feed(x, "return 1/2 within 9;");
            CHECK.same("custom cut at " + n, places[n] == -1 ? 0 : -9, x.custom(n, 0));
            CHECK.same("fault cut at " + n, places[n], x.fault());
        }
        Ledger x = Ledger.of(100, 100);
        Tape.feed(x, "witness 4;12;");
        CHECK.same("custom cut behind ;", 0, x.custom(10, 0));
        Tape.feed(x, "witness 1001;");
        CHECK.same("an N cut below 1,001", -9, x.custom(11, 0));
        CHECK.same("its place", 11, x.fault());
        Tape.feed(x, "witness 1001;");
        CHECK.same("an N of 1,001, cut behind it", -8, x.custom(12, 0));
        CHECK.same("its place", 8, x.fault());
    }

    private static void numberAbove() {
        CHECK.sentence("FAULTS: 2 an N above 1,000");
        good("return 1000/1 within 0;");
        bad("return 1001/1 within 0;", 2, 7);
        good("return 1/1000 within 0;");
        bad("return 1/1001 within 0;", 2, 9);
        good("return 1/1 within 1000;");
        bad("return 1/1 within 1001;", 2, 18);
        good("loan 1000/1;");
        bad("loan 1001/1;", 2, 5);
        good("loan 1/1000;");
        bad("loan 1/1001;", 2, 7);
        good("witness 1000;");
        bad("witness 1001;", 2, 8);
        bad("witness 01001;", 2, 8);
        bad("witness 1010;", 2, 8);
        bad("witness 9999;", 2, 8);
        bad("witness 10000;", 2, 8);
        // they would be small, if they were counted round: by 32, by 64 bits
        bad("witness 4294967296;", 2, 8);
        bad("witness 4294967297;", 2, 8);
        bad("witness 18446744073709551616;", 2, 8);
        bad("loan 1/18446744073709551617;", 2, 7);
        bad("witness 1" + "0".repeat(190) + ";", 2, 8);
        bad("witness " + "9".repeat(192), 2, 8);
    }

    private static void zeroBehindTheStroke() {
        CHECK.sentence("FAULTS: 2 or the one behind / being 0");
        bad("loan 5/0;", 2, 7);
        bad("loan 0/0;", 2, 7);
        bad("loan 5/000;", 2, 7);
        good("loan 5/1;");
        good("loan 5/001;");
        bad("return 1/0 within 2;", 2, 9);
        bad("return 0/0 within 0;", 2, 9);
        good("return 1/1 within 2;");
        // no other one
        good("loan 0/5;");
        good("return 0/1 within 2;");
        good("return 1/1 within 0;");
        good("witness 0;");
    }

    private static void ninthClause() {
        CHECK.sentence("FAULTS: 3 a 9th CLAUSE");
        bad(EIGHT + "loan 1/1;", 3, 72);
        bad(EIGHT + "witness 1;", 3, 72);
        bad(EIGHT + "return 1/1 within 1;", 3, 72);
        bad(EIGHT + "loan 1/1;loan 1/1;", 3, 72);
        bad(EIGHT + "  witness 1;", 3, 74);
        bad(EIGHT + "return", 3, 72);
        bad(" ".repeat(20) + EIGHT + "loan 1/1;", 3, 92);
        bad("witness 1;".repeat(20), 3, 80);
    }

    private static void leastOfOnePlace() {
        CHECK.sentence("FAULTS: of one the least");
        bad(EIGHT + "x", 1, 72);
        bad(EIGHT + "loans 1/1;", 1, 72);
        bad(EIGHT + "  within 1;", 1, 74);
        bad(EIGHT + ";", 1, 72);
        bad(EIGHT + "1001", 1, 72);
    }
}
