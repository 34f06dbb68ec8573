import java.nio.charset.StandardCharsets;
import java.util.Arrays;

/** Puts texts on a ledger's tape, and tells customs by them. */
final class Tape {
    private static final int FED_AT_ONCE = 20;

    private Tape() {
    }

    /** Feeds the text, with zeros behind it up to a multiple of twenty: what the last feed() answered. */
    static int feed(Ledger x, String text) {
        byte[] bytes = text.getBytes(StandardCharsets.ISO_8859_1);
        int answer = 0;
        for (int at = 0; at < bytes.length; at += FED_AT_ONCE) {
            byte[] part = Arrays.copyOfRange(bytes, at, at + FED_AT_ONCE);
            answer = x.feed(word(part, 0), word(part, 4), word(part, 8), word(part, 12), word(part, 16));
        }
        return answer;
    }

    /** Tells the text as a custom from a year on: what custom() answered. */
    static int tell(Ledger x, String text, int year) {
        feed(x, text);
        return x.custom(text.length(), year);
    }

    private static int word(byte[] bytes, int at) {
        int word = 0;
        for (int i = 0; i < 4; i++) {
            word = word << 8 | bytes[at + i] & 0xFF;
        }
        return word;
    }
}
