import java.util.ArrayList;
import java.util.List;

/** All that can be asked of a ledger with some past, a line each. */
final class Look {
    private static final int[] YEARS = {-1, 0, 1, 2, 3, 4, 5, 10, 100, 1000};

    private final Replay ledger;
    private final List<String> told = new ArrayList<>();

    private Look(Check.Past past) {
        ledger = new Replay(past);
    }

    static List<String> at(Check.Past past) {
        Look look = new Look(past);
        look.counts();
        look.chiefs();
        look.debts();
        look.coppers();
        look.customs();
        return look.told;
    }

    private int ask(String query, Check.Act act) {
        long answer = ledger.ask(act);
        told.add(query + " = " + answer);
        return (int) answer;
    }

    private void counts() {
        for (int i = 0; i < 7; i++) {
            int what = i;
            ask("count(" + what + ")", x -> x.count(what));
        }
    }

    private void chiefs() {
        int chiefs = ask("count(0)", x -> x.count(0));
        for (int i = 0; i < chiefs; i++) {
            int chief = i;
            for (int k = 0; k < 3; k++) {
                int what = k;
                ask("about(" + chief + ", " + what + ")", x -> x.about(chief, what));
            }
            ask("fame(" + chief + ")", x -> x.fame(chief));
        }
    }

    private void debts() {
        int debts = ask("count(2)", x -> x.count(2));
        for (int i = 0; i < debts; i++) {
            int debt = i;
            for (int k = 0; k < 5; k++) {
                int what = k;
                ask("debt(" + debt + ", " + what + ")", x -> x.debt(debt, what));
            }
        }
        ask("late(0)", x -> x.late(0));
    }

    private void coppers() {
        int coppers = ask("count(4)", x -> x.count(4));
        for (int i = 0; i < coppers; i++) {
            int copper = i;
            for (int k = 0; k < 2; k++) {
                int what = k;
                ask("copperTold(" + copper + ", " + what + ")", x -> x.copperTold(copper, what));
            }
        }
    }

    /** Comes last, as the tape can only be looked at by telling it as a custom. */
    private void customs() {
        for (int year : YEARS) {
            ask("force(" + year + ")", x -> x.force(year));
        }
        ask("fault()", x -> x.fault());
        int customs = ask("count(1)", x -> x.count(1));
        int bytes = ask("count(6)", x -> x.count(6));
        if (customs < 20) {
            ledger.again();
            ask("custom(" + bytes + ", 0)", x -> x.custom(bytes, 0));
            ask("fault() of the tape", x -> x.fault());
        }
    }
}
