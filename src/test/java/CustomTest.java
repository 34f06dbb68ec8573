/** Promises 3 feed, 4 custom, 5 fault, 6 force. */
public final class CustomTest {
    private static final String EIGHT = "loan 1/1;".repeat(8);

    public static void main(String[] args) {
        Check check = new Check();
        feed(check);
        texts(check);
        faultsThatCannotStand(check);
        faultsOfNumbers(check);
        faultsOfClauses(check);
        whatIsBehindTheText(check);
        whatATextTells(check);
        lastOfAKindCounts(check);
        arguments(check);
        twentyCustoms(check);
        latestFault(check);
        force(check);
        check.end();
    }

    private static void feed(Check check) {
        FeastLedger x = new FeastLedger();
        for (int i = 1; i <= 10; i++) {
            check.same("feed", 20 * i, x.feed(0, 0, 0, 0, 0));
            check.same("count(6)", 20 * i, x.count(6));
        }
        check.same("feed beyond 200", -1, x.feed(0, 0, 0, 0, 0));
        check.same("count(6)", 200, x.count(6));
        x.custom(0, 0);
        check.same("count(6) behind custom()", 0, x.count(6));
        check.same("feed once more", 20, x.feed(0, 0, 0, 0, 0));
        allIsReadAtFull(check);
        bytesAreWhole(check);
    }

    private static void allIsReadAtFull(Check check) {
        FeastLedger x = new FeastLedger();
        Check.feed(x, " ".repeat(180));
        Check.feed(x, "     witness 9;    x");
        check.same("custom(200, 0)", -9, x.custom(200, 0));
        check.same("fault", 199, x.fault());
    }

    private static void bytesAreWhole(Check check) {
        FeastLedger x = new FeastLedger();
        // 0xEC is 'l' with the highest bit
        Check.feed(x, "\u00ECoan 1/2;");
        check.same("custom of a byte above 127", -9, x.custom(9, 0));
        check.same("fault", 0, x.fault());
        good(check, "loan 1/2;");
    }

    private static void good(Check check, String text) {
        FeastLedger x = new FeastLedger();
        check.same("custom '" + text + "'", 0, Check.tell(x, text, 0));
        check.same("fault '" + text + "'", -1, x.fault());
        check.same("count(1) '" + text + "'", 1, x.count(1));
        check.same("count(6) '" + text + "'", 0, x.count(6));
    }

    private static void bad(Check check, String text, int fault, int place) {
        FeastLedger x = new FeastLedger();
        check.same("custom '" + text + "'", fault - 10, Check.tell(x, text, 0));
        check.same("fault '" + text + "'", place, x.fault());
        check.same("count(1) '" + text + "'", 0, x.count(1));
        check.same("count(6) '" + text + "'", 0, x.count(6));
        check.same("force '" + text + "'", -1, x.force(0));
    }

    private static void texts(Check check) {
        good(check, "");
        good(check, " ");
        good(check, "   ");
        good(check, "return 3/2 within 2;");
        good(check, "loan 1/10;");
        good(check, "witness 4;");
        good(check, "return3/2within2;loan1/10;witness4;");
        good(check, "  return  3  /  2  within  2  ;  loan  1  /  10  ;  witness  4  ;  ");
        good(check, "return 0/1 within 0;");
        good(check, "return 1000/1000 within 1000;");
        good(check, "loan 0/1000;");
        good(check, "loan 1000/1;");
        good(check, "witness 0;");
        good(check, "witness 1000;");
        good(check, "witness 00000000000000000000000000001000;");
        good(check, "loan 0000/0001;");
        good(check, EIGHT);
        good(check, EIGHT + "  ");
    }

    private static void faultsThatCannotStand(Check check) {
        bad(check, ";", 1, 0);
        bad(check, " ;", 1, 1);
        bad(check, "4;", 1, 0);
        bad(check, "Loan 1/2;", 1, 0);
        bad(check, "lOan 1/2;", 1, 0);
        bad(check, "loa", 1, 0);
        bad(check, "loans 1/2;", 1, 0);
        bad(check, "loanz 1/2;", 1, 0);
        bad(check, "loana 1/2;", 1, 0);
        bad(check, "loan{1/2;", 1, 4);
        bad(check, "loan`1/2;", 1, 4);
        bad(check, "loam 1/2;", 1, 0);
        bad(check, "moan 1/2;", 1, 0);
        bad(check, "lzan 1/2;", 1, 0);
        bad(check, "loaz 1/2;", 1, 0);
        bad(check, "  gift 4;", 1, 2);
        bad(check, "within 4;", 1, 0);
        bad(check, "returnwithin 4;", 1, 0);
        bad(check, "\tloan 1/2;", 1, 0);
        bad(check, "loan\t1/2;", 1, 4);
        bad(check, "loan 1/2;\n", 1, 9);
        bad(check, "loan", 1, 4);
        bad(check, "loan  ", 1, 6);
        bad(check, "loan 5", 1, 6);
        bad(check, "loan 5 ", 1, 7);
        bad(check, "loan 5/", 1, 7);
        bad(check, "loan 5/ ", 1, 8);
        bad(check, "loan 5/6", 1, 8);
        bad(check, "loan 5/6 ", 1, 9);
        bad(check, "loan /6;", 1, 5);
        bad(check, "loan x/6;", 1, 5);
        bad(check, "loan 5/x;", 1, 7);
        bad(check, "loan 5//6;", 1, 7);
        bad(check, "loan 5;", 1, 6);
        bad(check, "loan 5 6;", 1, 7);
        bad(check, "loan 5:6;", 1, 6);
        bad(check, "loan :/6;", 1, 5);
        bad(check, "loan -1/6;", 1, 5);
        bad(check, "loan 1/2 within 2;", 1, 9);
        bad(check, "loan 1/2; ;", 1, 10);
        bad(check, "loan 1/2;;", 1, 9);
        bad(check, "loan 1/2, loan 1/2;", 1, 8);
        bad(check, "witness", 1, 7);
        bad(check, "witness 4", 1, 9);
        bad(check, "witness 4/4;", 1, 9);
        bad(check, "witness 4 4;", 1, 10);
        bad(check, "return", 1, 6);
        bad(check, "return 1/2", 1, 10);
        bad(check, "return 1/2 ", 1, 11);
        bad(check, "return 1/2;", 1, 10);
        bad(check, "return 1/2 3;", 1, 11);
        bad(check, "return 1/2 withi 3;", 1, 11);
        bad(check, "return 1/2 withins 3;", 1, 11);
        bad(check, "return 1/2 loan 3;", 1, 11);
        bad(check, "return 1/2 within", 1, 17);
        bad(check, "return 1/2 within;", 1, 17);
        bad(check, "return 1/2 within x;", 1, 18);
        bad(check, "return 1/2 within 3", 1, 19);
        bad(check, "return 1/2 within 3 loan 1/2;", 1, 20);
    }

    private static void faultsOfNumbers(Check check) {
        bad(check, "loan 1001/2;", 2, 5);
        bad(check, "loan   1001/2;", 2, 7);
        bad(check, "loan 1/1001;", 2, 7);
        bad(check, "loan 5/0;", 2, 7);
        bad(check, "loan 5/ 000;", 2, 8);
        bad(check, "loan 0/0;", 2, 7);
        bad(check, "witness 1001;", 2, 8);
        bad(check, "witness 01001;", 2, 8);
        bad(check, "witness 9999;", 2, 8);
        bad(check, "witness 10000;", 2, 8);
        bad(check, "witness 4294967296;", 2, 8);
        bad(check, "witness 18446744073709551617;", 2, 8);
        bad(check, "witness 1" + "0".repeat(150) + ";", 2, 8);
        bad(check, "return 1001/2 within 2;", 2, 7);
        bad(check, "return 1/0 within 2;", 2, 9);
        bad(check, "return 1/1001 within 2;", 2, 9);
        bad(check, "return 1/2 within 1001;", 2, 18);
        // a fault further to the left is told first, whatever its kind
        bad(check, "loan 1001", 2, 5);
        bad(check, "loan 1001 x", 2, 5);
        bad(check, "loan 5/0", 2, 7);
        bad(check, "loan 1001/0;", 2, 5);
        bad(check, "loan x/0;", 1, 5);
        bad(check, "loan 1/2; x; loan 1001/0;", 1, 10);
        bad(check, "return 1/0 withi 1001;", 2, 9);
    }

    private static void faultsOfClauses(Check check) {
        bad(check, EIGHT + "loan 1/1;", 3, 72);
        bad(check, EIGHT + "  witness 1;", 3, 74);
        bad(check, EIGHT + "return", 3, 72);
        bad(check, EIGHT + "loan 1001/0;", 3, 72);
        bad(check, EIGHT + "loan 1/1;loan 1/1;", 3, 72);
        bad(check, EIGHT + "x", 1, 72);
        bad(check, EIGHT + "loans 1/1;", 1, 72);
        bad(check, EIGHT + "  within 1;", 1, 74);
        bad(check, EIGHT + ";", 1, 72);
        bad(check, "loan 1/1;".repeat(7) + "loan 1/0;loan 1/1;", 2, 70);
        bad(check, " ".repeat(20) + EIGHT + "loan 1/1;", 3, 92);
    }

    /** Bytes of the tape behind the first n are no part of the text. */
    private static void whatIsBehindTheText(Check check) {
        cutAt(check, "loan 1/25;", 3, 0);
        cutAt(check, "loan 1/25;", 4, 4);
        cutAt(check, "loan   1/25;", 5, 5);
        cutAt(check, "loan 10/25;", 6, 6);
        cutAt(check, "loan 1/25;", 6, 6);
        cutAt(check, "loan 1/25;", 7, 7);
        cutAt(check, "loan 1/25;", 8, 8);
        cutAt(check, "loan 1/25;", 9, 9);
        cutAt(check, "return 1/2 within 9;", 16, 11);
        cutAt(check, "return 1/2 within 9;", 17, 17);
        FeastLedger x = Check.ledger(10, 0);
        Check.feed(x, "witness 1;witness 9;");
        check.same("custom(10, 0)", 0, x.custom(10, 0));
        check.same("feast", 1, x.feast(0, 0, 1, 2));
        Check.feed(x, "witness 2;x");
        check.same("custom(10, 0)", 1, x.custom(10, 0));
        Check.feed(x, "  x");
        check.same("custom(2, 0)", 2, x.custom(2, 0));
    }

    private static void cutAt(Check check, String text, int n, int place) {
        FeastLedger x = new FeastLedger();
        Check.feed(x, text);
        check.same("custom '" + text + "' cut at " + n, -9, x.custom(n, 0));
        check.same("fault '" + text + "' cut at " + n, place, x.fault());
    }

    /** Gives, lends and feasts, so that each number of the text is seen. */
    private static void whatATextTells(Check check) {
        FeastLedger x = Check.ledger(1000, 1000, 1000);
        Check.tell(x, "witness 12; loan 34/56; return 78/90 within 23;", 0);
        x.give(0, 1, 100);
        check.debt(x, 0, 1, 0, 87, 0, 23);
        x.lend(0, 1, 100);
        x.wait(1);
        check.debt(x, 1, 1, 0, 160, 1, -1);
        check.same("feast", 12, x.feast(2, 0, 1, 1));
        x.custom(0, 0);
        check.same("give without return", 0, x.give(2, 1, 100));
        check.same("count(2)", 2, x.count(2));
        x.wait(1);
        check.same("a loan without loan", 160, x.debt(1, 2));
        check.same("feast without witness", 0, x.feast(2, 0, 1, 1));
    }

    private static void lastOfAKindCounts(Check check) {
        FeastLedger x = Check.ledger(1000, 1000, 1000);
        Check.tell(x, "return 1/1 within 1; loan 1/1; witness 1;"
                + "witness 5; loan 1/4; return 2/1 within 3;", 0);
        x.give(0, 1, 10);
        check.debt(x, 0, 1, 0, 20, 0, 3);
        x.lend(0, 1, 100);
        x.wait(1);
        check.same("the last loan", 125, x.debt(1, 2));
        check.same("the last witness", 5, x.feast(2, 0, 1, 1));
        // a faulty text leaves nothing behind for the next one
        Check.tell(x, "return 9/1 within 9; loan 9/1; witness 9; x", 0);
        check.same("custom(0, 1)", 1, x.custom(0, 1));
        check.same("give", 0, x.give(2, 1, 10));
        check.same("count(2)", 2, x.count(2));
        check.same("feast", 0, x.feast(2, 0, 1, 1));
        x.wait(1);
        check.same("no loan", 125, x.debt(1, 2));
    }

    private static void arguments(Check check) {
        FeastLedger x = new FeastLedger();
        Check.feed(x, "loan 1/2;");
        check.argument("custom(-1, 0)", () -> x.custom(-1, 0));
        check.argument("custom(21, 0)", () -> x.custom(21, 0));
        check.argument("custom(9, -1)", () -> x.custom(9, -1));
        check.argument("custom(9, 1001)", () -> x.custom(9, 1001));
        check.argument("custom(MIN, MAX)",
                () -> x.custom(Integer.MIN_VALUE, Integer.MAX_VALUE));
        check.same("count(6)", 20, x.count(6));
        check.same("fault", -1, x.fault());
        check.same("custom(9, 1000)", 0, x.custom(9, 1000));
        check.same("count(6)", 0, x.count(6));
        check.argument("custom(1, 0)", () -> x.custom(1, 0));
        check.same("custom(0, 0)", 1, x.custom(0, 0));
        Check.feed(x, "loan 1/2;           ");
        check.same("custom of the whole tape", 2, x.custom(20, 0));
    }

    private static void twentyCustoms(Check check) {
        FeastLedger x = new FeastLedger();
        for (int i = 0; i < 20; i++) {
            // faulty ones take no place
            check.same("custom", -9, Check.tell(x, "witness x;", i));
            check.same("custom", i, Check.tell(x, "witness 4;", i));
        }
        check.same("count(1)", 20, x.count(1));
        check.same("force(19)", 19, x.force(19));
        Check.feed(x, "y");
        check.state("custom(1, 0)", () -> x.custom(1, 0));
        check.state("custom(0, 0)", () -> x.custom(0, 0));
        check.argument("custom(21, 0)", () -> x.custom(21, 0));
        check.argument("custom(0, 1001)", () -> x.custom(0, 1001));
        check.same("count(6)", 20, x.count(6));
        check.same("fault", -1, x.fault());
        check.same("count(1)", 20, x.count(1));
    }

    private static void latestFault(Check check) {
        FeastLedger x = new FeastLedger();
        check.same("fault at first", -1, x.fault());
        Check.tell(x, "loan", 0);
        check.same("fault", 4, x.fault());
        check.same("fault again", 4, x.fault());
        x.feed(0, 0, 0, 0, 0);
        check.same("fault behind feed", 4, x.fault());
        x.custom(0, 0);
        check.same("fault behind a good one", -1, x.fault());
        Check.tell(x, "xyz", 0);
        check.same("fault", 0, x.fault());
    }

    private static void force(Check check) {
        FeastLedger x = new FeastLedger();
        check.same("force(0)", -1, x.force(0));
        x.custom(0, 5);
        x.custom(0, 3);
        x.custom(0, 5);
        x.custom(0, 1000);
        x.custom(0, 4);
        check.same("force(MIN)", -1, x.force(Integer.MIN_VALUE));
        check.same("force(-1)", -1, x.force(-1));
        check.same("force(2)", -1, x.force(2));
        check.same("force(3)", 1, x.force(3));
        check.same("force(4)", 4, x.force(4));
        check.same("force(5)", 2, x.force(5));
        check.same("force(999)", 2, x.force(999));
        check.same("force(1000)", 3, x.force(1000));
        check.same("force(MAX)", 3, x.force(Integer.MAX_VALUE));
        x.custom(0, 0);
        check.same("force(0)", 5, x.force(0));
        check.same("force(-1)", -1, x.force(-1));
        check.same("force(3)", 1, x.force(3));
    }
}
