/** Promise 13 feast. */
public final class FeastTest {
    public static void main(String[] args) {
        Check check = new Check();
        guestsAndWitnesses(check);
        guestsInOrder(check);
        answersDebts(check);
        nobodyComes(check);
        fewer(check);
        oneDebtTooMany(check);
        wrongBits(check);
        wrongSize(check);
        theDead(check);
        check.end();
    }

    private static void guestsAndWitnesses(Check check) {
        FeastLedger x = Check.ledger(100, 0, 0, 0, 0);
        Check.tell(x, "return 2/1 within 3;witness 4;", 0);
        x.wait(1);
        check.same("feast", 28, x.feast(0, 2 + 8, 10, 4 + 16));
        int[] due = {72, 10, 4, 10, 4};
        for (int i = 0; i < due.length; i++) {
            check.same("about(" + i + ", 0)", due[i], x.about(i, 0));
        }
        check.same("count(2)", 2, x.count(2));
        check.debt(x, 0, 1, 0, 20, 0, 4);
        check.debt(x, 1, 3, 0, 20, 0, 4);
        check.same("fame(0)", 20, x.fame(0));
        Check.tell(x, "witness 1000;", 0);
        check.same("a witness that is to get 1000", -1, x.feast(0, 0, 1, 2));
    }

    private static void guestsInOrder(Check check) {
        FeastLedger x = Check.ledger(0, 0, 0, 0, 0, 1_000_000, 0, 0, 0, 0, 0, 0);
        Check.tell(x, "return 1/1 within 3;", 0);
        check.same("feast", 1_000_000, x.feast(5, 0x7DF, 100_000, 0x800));
        check.same("count(2)", 10, x.count(2));
        int debt = 0;
        for (int guest = 0; guest < 11; guest++) {
            if (guest != 5) {
                check.debt(x, debt, guest, 5, 100_000, 0, 3);
                debt++;
            }
        }
        check.same("about(5, 0)", 0, x.about(5, 0));
        check.same("fame(5)", 1_000_000, x.fame(5));
        FeastLedger y = Check.ledger(0, 0, 0, 0, 0, 0, 0, 0, 0, 0, 0, 22_000);
        Check.tell(y, "witness 1000;", 0);
        check.same("eleven witnesses", 11_000, y.feast(11, 0, 100_000, 0x7FF));
        check.same("eleven guests", 11_000, y.feast(11, 0x7FF, 1000, 0));
        check.same("about(0, 0)", 2000, y.about(0, 0));
        check.same("fame(11)", 11_000, y.fame(11));
    }

    private static void answersDebts(Check check) {
        FeastLedger x = Check.ledger(100, 100, 100, 100);
        Check.tell(x, "return 1/1 within 3;witness 5;", 0);
        x.lend(1, 0, 4);
        x.lend(2, 0, 10);
        x.lend(3, 0, 30);
        check.same("feast", 25, x.feast(0, 2 + 4, 10, 8));
        check.debt(x, 0, 0, 1, 0, 1, -1);
        check.debt(x, 1, 0, 2, 0, 1, -1);
        // a witness is not given to
        check.debt(x, 2, 0, 3, 30, 1, -1);
        check.debt(x, 3, 1, 0, 6, 0, 3);
        check.same("count(2)", 4, x.count(2));
        check.same("fame(0)", 20, x.fame(0));
        check.same("about(3, 0)", 75, x.about(3, 0));
    }

    private static void nobodyComes(Check check) {
        FeastLedger x = Check.ledger(0, 10);
        check.same("a feast without any custom", 2, x.feast(1, 1, 2, 0));
        check.same("a witness without any custom", 0, x.feast(1, 0, 1, 1));
        check.same("give back", 0, x.give(0, 1, 2));
        Check.tell(x, "return 1/1 within 3;witness 5;", 0);
        check.same("feast", 0, x.feast(0, 0, 100_000, 0));
        check.same("feast", 0, x.feast(1, 0, 1, 0));
        check.same("count(2)", 0, x.count(2));
        check.same("fame(1)", 2, x.fame(1));
    }

    private static void fewer(Check check) {
        FeastLedger x = Check.ledger(24, 0, 0, 0);
        Check.tell(x, "return 1/1 within 3;witness 5;", 0);
        String before = Check.state(x);
        check.same("guests", -1, x.feast(0, 2 + 4, 13, 0));
        check.same("guests and witnesses", -1, x.feast(0, 2 + 4, 10, 8));
        check.unchanged("feast", before, x);
        check.same("just enough", 23, x.feast(0, 2 + 4, 9, 8));
        check.same("witnesses alone", -1, x.feast(0, 0, 1, 8));
        x.custom(0, 0);
        check.same("what is left", 1, x.feast(0, 2, 1, 8));
    }

    private static void oneDebtTooMany(Check check) {
        FeastLedger x = Check.ledger(1000, 1000, 0, 0);
        Check.tell(x, "return 1/1 within 3;witness 5;", 0);
        Check.fillDebts(x, 398);
        String before = Check.state(x);
        // 1 owes 199 to 0, and 0 as much to 1
        check.same("three more", -2, x.feast(0, 2 + 4 + 8, 200, 0));
        check.unchanged("feast", before, x);
        check.same("fewer is told first", -1, x.feast(0, 2 + 4 + 8, 500, 0));
        check.same("two more", 597, x.feast(0, 2 + 4 + 8, 199, 0));
        check.same("count(2)", 400, x.count(2));
        before = Check.state(x);
        check.same("one more", -2, x.feast(0, 4, 1, 0));
        check.unchanged("feast", before, x);
        check.same("witnesses make none", 10, x.feast(0, 0, 1, 4 + 8));
        check.same("answers make none", 199, x.feast(1, 1, 199, 0));
        check.same("one more", -2, x.feast(1, 1, 1, 0));
    }

    private static void wrongBits(Check check) {
        FeastLedger x = Check.ledger(100, 100, 100);
        String before = Check.state(x);
        check.index("feast(-1, ..)", () -> x.feast(-1, 2, 1, 0));
        check.index("feast(3, ..)", () -> x.feast(3, 2, 1, 0));
        check.index("feast(3, 8, 0, 8)", () -> x.feast(3, 8, 0, 8));
        check.argument("the host is a guest", () -> x.feast(1, 2, 1, 0));
        check.argument("the host is a witness", () -> x.feast(1, 1, 1, 2));
        check.argument("one is both", () -> x.feast(0, 2 + 4, 1, 4));
        check.argument("a guest that is none", () -> x.feast(0, 8, 1, 0));
        check.argument("a witness that is none", () -> x.feast(0, 2, 1, 8));
        check.argument("a guest of the highest bit", () -> x.feast(0, Integer.MIN_VALUE, 1, 0));
        check.argument("a witness of the highest bit", () -> x.feast(0, 2, 1, Integer.MIN_VALUE));
        check.argument("all bits", () -> x.feast(0, -2, 1, 0));
        check.unchanged("feast", before, x);
        FeastLedger full = Check.ledger(9, 9, 9, 9, 9, 9, 9, 9, 9, 9, 9, 9);
        check.argument("a 13th guest", () -> full.feast(0, 1 << 12, 1, 0));
        check.argument("a 13th witness", () -> full.feast(0, 2, 1, 1 << 12));
        check.same("the 12th", 1, full.feast(0, 1 << 11, 1, 0));
    }

    private static void wrongSize(Check check) {
        FeastLedger x = Check.ledger(1_000_000, 100, 100);
        check.argument("a size of 0", () -> x.feast(0, 2, 0, 0));
        check.argument("a size of -1", () -> x.feast(0, 2, -1, 0));
        check.argument("a size of 100001", () -> x.feast(0, 2, 100_001, 0));
        check.argument("a size of 0 for nobody", () -> x.feast(0, 0, 0, 2));
        check.same("a size of 100000", 100_000, x.feast(0, 2, 100_000, 0));
        check.same("a size of 1", 1, x.feast(0, 2, 1, 0));
    }

    private static void theDead(Check check) {
        FeastLedger x = Check.ledger(100, 100, 100, 100);
        x.died(1, 0);
        String before = Check.state(x);
        check.state("a dead host", () -> x.feast(1, 1, 1, 0));
        check.state("a dead host of nobody", () -> x.feast(1, 0, 1, 0));
        check.state("a dead guest", () -> x.feast(0, 2 + 4, 1, 0));
        check.state("a dead witness", () -> x.feast(0, 4, 1, 2));
        check.argument("a dead host as guest", () -> x.feast(1, 2, 1, 0));
        check.argument("a dead one that is both", () -> x.feast(0, 2, 1, 2));
        check.argument("a dead guest of 0", () -> x.feast(0, 2, 0, 0));
        check.state("a dead guest, too few blankets", () -> x.feast(0, 2, 100_000, 0));
        check.unchanged("feast", before, x);
        check.same("those who live", 2, x.feast(0, 4 + 8, 1, 0));
        x.died(0, 2);
        check.state("a dead guest 0", () -> x.feast(3, 1, 1, 0));
        check.state("a dead witness 0", () -> x.feast(3, 4, 1, 1));
    }
}
