/** Asks a ledger more than an object has calls for: it is made anew, with the same past, when it is used up. */
final class Replay {
    private final Check.Past past;
    private Ledger ledger;

    Replay(Check.Past past) {
        this.past = past;
        again();
    }

    void again() {
        ledger = past.make();
    }

    long ask(Check.Act query) {
        if (ledger.callsLeft() == 0) {
            again();
        }
        return query.on(ledger);
    }
}
