import java.util.LinkedHashSet;
import java.util.List;
import java.util.Set;

/**
 * Counts and prints the answers that are not as due, each behind the document's sentence that it is
 * to keep.
 */
final class Check {
    /** A call whose answer is looked at. */
    interface Call {
        long answer();
    }

    /** Makes a ledger, the same one each time. */
    interface Past {
        Ledger make();
    }

    /** A call on a ledger. */
    interface Act {
        long on(Ledger x);
    }

    private static final Class<? extends RuntimeException> INDEX = IndexOutOfBoundsException.class;
    private static final Class<? extends RuntimeException> ARGUMENT = IllegalArgumentException.class;
    private static final Class<? extends RuntimeException> STATE = IllegalStateException.class;

    private int wrong = 0;
    private String sentence = "";

    /** The sentence of the document that the calls behind this one are about. */
    void sentence(String words) {
        sentence = words;
    }

    void same(String call, long due, long got) {
        if (got != due) {
            say(call + " answered " + got + ", due is " + due);
        }
    }

    void index(String call, Call made) {
        thrown(call, INDEX, made);
    }

    void argument(String call, Call made) {
        thrown(call, ARGUMENT, made);
    }

    void state(String call, Call made) {
        thrown(call, STATE, made);
    }

    private void thrown(String call, Class<? extends RuntimeException> due, Call made) {
        try {
            say(call + " answered " + made.answer() + ", due is " + due.getName());
        } catch (RuntimeException e) {
            // the class itself: what the machine throws at an index is of a class below
            if (e.getClass() != due) {
                say(call + " threw " + e + ", due is " + due.getName());
            }
        }
    }

    /** A call that answers so, and changes nothing. */
    void refused(String call, long due, Past past, Act act) {
        same(call, due, act.on(past.make()));
        unchanged(call, past, act);
    }

    void refusedByIndex(String call, Past past, Act act) {
        Ledger x = past.make();
        index(call, () -> act.on(x));
        unchanged(call, past, act);
    }

    void refusedByArgument(String call, Past past, Act act) {
        Ledger x = past.make();
        argument(call, () -> act.on(x));
        unchanged(call, past, act);
    }

    void refusedByState(String call, Past past, Act act) {
        Ledger x = past.make();
        state(call, () -> act.on(x));
        unchanged(call, past, act);
    }

    void unchanged(String call, Past past, Act act) {
        List<String> before = Look.at(past);
        List<String> after = Look.at(() -> behind(past, act));
        if (before.size() != after.size()) {
            say(call + " changed how much there is");
            return;
        }
        for (int i = 0; i < before.size(); i++) {
            if (!before.get(i).equals(after.get(i))) {
                say(call + " changed " + before.get(i) + " to " + after.get(i));
            }
        }
    }

    /** A call that answers so; behind it the ledger tells these things anew, and all else as before. */
    void changes(String call, long due, Past past, Act act, String... changed) {
        same(call, due, act.on(past.make()));
        Set<String> got = new LinkedHashSet<>(Look.at(() -> behind(past, act)));
        got.removeAll(Look.at(past));
        if (!got.equals(Set.of(changed))) {
            say(call + " changed " + got + ", due is " + List.of(changed));
        }
    }

    private static Ledger behind(Past past, Act act) {
        Ledger x = past.make();
        try {
            act.on(x);
        } catch (RuntimeException e) {
            // what it throws is looked at elsewhere
        }
        return x;
    }

    /** All that debt() tells of one: who owes, to whom, how much is left, its kind, when it is due. */
    void debt(Ledger x, int debt, int... due) {
        for (int what = 0; what < due.length; what++) {
            same("debt(" + debt + ", " + what + ")", due[what], x.debt(debt, what));
        }
    }

    /** How much is left of each debt, from the first on; there are no more of them. */
    void lefts(Ledger x, int... due) {
        same("count(2)", due.length, x.count(2));
        for (int i = 0; i < due.length; i++) {
            same("debt(" + i + ", 2)", due[i], x.debt(i, 2));
        }
    }

    /** The blankets of each chief, from the first on. */
    void blankets(Ledger x, int... due) {
        for (int i = 0; i < due.length; i++) {
            same("about(" + i + ", 0)", due[i], x.about(i, 0));
        }
    }

    void say(String text) {
        wrong++;
        System.out.println(sentence + " | " + text);
    }

    void end() {
        if (wrong != 0) {
            System.out.println(wrong + " wrong");
            System.exit(1);
        }
    }
}
