/** The example of README.md: its answers are those that stand there. */
public final class ReadmeTest {
    private static final Check CHECK = new Check();

    public static void main(String[] args) {
        CHECK.sentence("README.md");
        FeastLedger ledger = new FeastLedger();
        int host = ledger.chief(100);
        int guest = ledger.chief(50);
        CHECK.same("chief(100)", 0, host);
        CHECK.same("chief(50)", 1, guest);
        CHECK.same("tell", 0, tell(ledger, "return 3/2 within 2; loan 1/4; witness 1;", 0));
        CHECK.same("give(host, guest, 10)", 0, ledger.give(host, guest, 10));
        CHECK.same("debt(0, 2)", 15, ledger.debt(0, 2));
        CHECK.same("lend(guest, host, 20)", 1, ledger.lend(guest, host, 20));
        CHECK.same("wait(1)", 1, ledger.wait(1));
        CHECK.same("debt(1, 2)", 25, ledger.debt(1, 2));
        CHECK.same("gather(host, 2)", 125, ledger.gather(host, 2));
        CHECK.same("hold(host, 2)", 1, ledger.hold(host, 2));
        CHECK.same("give(guest, host, 41)", -1, ledger.give(guest, host, 41));
        CHECK.end();
    }

    private static int tell(FeastLedger ledger, String text, int fromYear) {
        int[] fed = new int[5];
        for (int at = 0; at < text.length(); at += 20) {
            for (int i = 0; i < 20; i++) {
                int sign = at + i < text.length() ? text.charAt(at + i) : ' ';
                fed[i / 4] = fed[i / 4] << 8 | sign & 0xFF;
            }
            ledger.feed(fed[0], fed[1], fed[2], fed[3], fed[4]);
        }
        return ledger.custom(text.length(), fromYear);
    }
}
