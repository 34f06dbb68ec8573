import java.nio.charset.StandardCharsets;
import java.util.Arrays;

/** Counts and prints the answers that are not as due, and tells customs by their text. */
final class Check {
    interface Call {
        long answer();
    }

    private static final int FED_AT_ONCE = 20;

    private int wrong = 0;

    void same(String call, long due, long got) {
        if (got != due) {
            say(call + " answered " + got + ", due is " + due);
        }
    }

    void index(String call, Call made) {
        thrown(call, IndexOutOfBoundsException.class, made);
    }

    void argument(String call, Call made) {
        thrown(call, IllegalArgumentException.class, made);
    }

    void state(String call, Call made) {
        thrown(call, IllegalStateException.class, made);
    }

    private void thrown(String call, Class<? extends RuntimeException> due, Call made) {
        try {
            say(call + " answered " + made.answer() + ", due is " + due.getName());
        } catch (RuntimeException e) {
            // the class itself: what the machine throws at an index is of a class below
            if (e.getClass() != due) {
                say(call + " threw " + e + ", due is " + due.getName());
            }
        }
    }

    void say(String text) {
        wrong++;
        System.out.println(text);
    }

    void end() {
        if (wrong != 0) {
            System.out.println(wrong + " wrong");
            System.exit(1);
        }
    }

    /** Feeds the text, with zeros behind it up to a multiple of twenty. */
    static void feed(FeastLedger ledger, String text) {
        byte[] bytes = text.getBytes(StandardCharsets.ISO_8859_1);
        for (int at = 0; at < bytes.length; at += FED_AT_ONCE) {
            byte[] part = Arrays.copyOfRange(bytes, at, at + FED_AT_ONCE);
            ledger.feed(word(part, 0), word(part, 4), word(part, 8), word(part, 12), word(part, 16));
        }
    }

    static int tell(FeastLedger ledger, String text, int year) {
        feed(ledger, text);
        return ledger.custom(text.length(), year);
    }

    private static int word(byte[] bytes, int at) {
        int word = 0;
        for (int i = 0; i < 4; i++) {
            word = word << 8 | bytes[at + i] & 0xFF;
        }
        return word;
    }

    static FeastLedger ledger(int... blankets) {
        FeastLedger made = new FeastLedger();
        for (int some : blankets) {
            made.chief(some);
        }
        return made;
    }

    /** Of all: chiefs, customs, debts and coppers, to see whether a call changed anything. */
    static String state(FeastLedger x) {
        StringBuilder told = new StringBuilder();
        for (int i = 0; i < 7; i++) {
            told.append(x.count(i)).append(' ');
        }
        told.append('f').append(x.fault());
        for (int i = 0; i < x.count(0); i++) {
            told.append(" chief ").append(x.about(i, 0)).append(' ').append(x.about(i, 1));
            told.append(' ').append(x.about(i, 2)).append(' ').append(x.fame(i));
        }
        for (int i = 0; i < x.count(2); i++) {
            told.append(" debt");
            for (int what = 0; what < 5; what++) {
                told.append(' ').append(x.debt(i, what));
            }
        }
        for (int i = 0; i < x.count(4); i++) {
            told.append(" copper ").append(x.copperTold(i, 0)).append(' ').append(x.copperTold(i, 1));
        }
        return told.toString();
    }

    void unchanged(String call, String before, FeastLedger x) {
        String after = state(x);
        if (!after.equals(before)) {
            say(call + " changed " + before + " to " + after);
        }
    }

    /** Looks at all that debt() tells of one. */
    void debt(FeastLedger x, int debt, int... due) {
        for (int what = 0; what < due.length; what++) {
            same("debt(" + debt + ", " + what + ")", due[what], x.debt(debt, what));
        }
    }

    /** Makes loans of 1 by turns between chiefs 0 and 1, until there are so many debts. */
    static void fillDebts(FeastLedger x, int debts) {
        while (x.count(2) < debts) {
            int from = x.count(2) % 2;
            if (x.lend(from, 1 - from, 1) < 0) {
                throw new IllegalStateException("the test's chiefs have too few blankets");
            }
        }
    }
}
