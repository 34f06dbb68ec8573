/**
 * A ledger of feasts: chiefs, their gifts, loans and coppers, the customs that tell how gifts are
 * answered and loans grow, and what a chief could gather if all debts were called in.
 *
 * <p>The words used here (given, debt, fame, gather, hold ..) are those of the document's terms.
 */
public final class FeastLedger {
    public static final int NONE = -1;

    private static final int MOST_CHIEFS = 12;
    private static final int MOST_CUSTOMS = 20;
    private static final int MOST_DEBTS = 400;
    private static final int MOST_COPPERS = 30;
    private static final int MOST_TAPE = 200;
    private static final int MOST_FED = 20;
    private static final int MOST_BLANKETS = 1_000_000;
    private static final int MOST_WORTH = 1_000_000;
    private static final int MOST_SIZE = 100_000;
    private static final int MOST_YEARS_AT_ONCE = 100;
    private static final int LAST_YEAR = 1_000;
    private static final int MOST_OWED = 1_000_000_000;

    private static final int HAS_FEWER = -1;
    private static final int ONE_DEBT_TOO_MANY = -2;
    private static final int IS_GONE = -1;
    private static final int FAULT_SHIFT = 10;

    private final Tape tape;
    private final TextReader reader;
    private final Customs customs;
    private final Chiefs chiefs;
    private final Debts debts;
    private final Coppers coppers;
    private final Gathering gathering;
    private int now;
    private int faultPlace;

    public FeastLedger() {
        tape = new Tape();
        reader = new TextReader();
        customs = new Customs();
        chiefs = new Chiefs();
        debts = new Debts();
        coppers = new Coppers();
        gathering = new Gathering();
        now = 0;
        faultPlace = NONE;
    }

    public int chief(int blankets) throws IllegalArgumentException, IllegalStateException {
        if (blankets < 0 || blankets > MOST_BLANKETS) {
            throw new IllegalArgumentException("blankets are 0 to 1,000,000");
        }
        if (chiefs.size >= MOST_CHIEFS) {
            throw new IllegalStateException("there were 12 chiefs");
        }
        return chiefs.add(blankets);
    }

    public int feed(int a, int b, int c, int d, int e) {
        if (tape.length + MOST_FED > MOST_TAPE) {
            return NONE;
        }
        tape.append(a);
        tape.append(b);
        tape.append(c);
        tape.append(d);
        tape.append(e);
        return tape.length;
    }

    public int custom(int n, int year) throws IllegalArgumentException, IllegalStateException {
        if (n < 0 || n > tape.length || year < 0 || year > LAST_YEAR) {
            throw new IllegalArgumentException("a text within the tape, from a year of 0 to 1,000");
        }
        if (customs.size >= MOST_CUSTOMS) {
            throw new IllegalStateException("there are 20 customs");
        }
        reader.read(tape.bytes, n);
        tape.length = 0;
        faultPlace = reader.faultPlace;
        if (reader.fault != TextReader.NO_FAULT) {
            return reader.fault - FAULT_SHIFT;
        }
        return customs.add(reader, year);
    }

    public int fault() {
        return faultPlace;
    }

    public int force(int year) {
        return customs.inForce(year);
    }

    public int give(int from, int to, int n)
            throws IndexOutOfBoundsException, IllegalArgumentException, IllegalStateException {
        checkHandingOver(from, to, n);
        if (chiefs.blankets[from] < n) {
            return HAS_FEWER;
        }
        if (debtsMadeBy(from, to, n) > debts.room()) {
            return ONE_DEBT_TOO_MANY;
        }
        chiefs.moveBlankets(from, to, n);
        return recordGiven(from, to, n);
    }

    public int lend(int from, int to, int n)
            throws IndexOutOfBoundsException, IllegalArgumentException, IllegalStateException {
        checkHandingOver(from, to, n);
        if (chiefs.blankets[from] < n) {
            return HAS_FEWER;
        }
        if (debts.room() < 1) {
            return ONE_DEBT_TOO_MANY;
        }
        chiefs.moveBlankets(from, to, n);
        return debts.add(to, from, n, Debts.DUE_OF_LOANS);
    }

    public int copper(int owner, int worth)
            throws IndexOutOfBoundsException, IllegalArgumentException, IllegalStateException {
        checkChief(owner);
        if (worth < 1 || worth > MOST_WORTH) {
            throw new IllegalArgumentException("a worth is 1 to 1,000,000");
        }
        checkLives(owner);
        if (coppers.size >= MOST_COPPERS) {
            throw new IllegalStateException("there were 30 coppers");
        }
        return coppers.add(owner, worth);
    }

    public int pass(int copper, int to)
            throws IndexOutOfBoundsException, IllegalArgumentException, IllegalStateException {
        checkCopper(copper);
        checkChief(to);
        int owner = coppers.owner[copper];
        if (owner == to) {
            throw new IllegalArgumentException("the copper is that chief's own");
        }
        checkLives(to);
        int worth = coppers.worth[copper];
        if (worth == 0) {
            return IS_GONE;
        }
        if (debtsMadeBy(owner, to, worth) > debts.room()) {
            return ONE_DEBT_TOO_MANY;
        }
        coppers.owner[copper] = to;
        return recordGiven(owner, to, worth);
    }

    public int breaks(int copper) throws IndexOutOfBoundsException {
        checkCopper(copper);
        if (coppers.worth[copper] == 0) {
            return IS_GONE;
        }
        return coppers.breakOff(copper);
    }

    public int copperTold(int copper, int what)
            throws IndexOutOfBoundsException, IllegalArgumentException {
        checkCopper(copper);
        switch (what) {
            case 0:
                return coppers.owner[copper];
            case 1:
                return coppers.worth[copper];
            default:
                throw new IllegalArgumentException("of a copper 0 and 1 are told");
        }
    }

    public int feast(int host, int guests, int size, int witnesses)
            throws IndexOutOfBoundsException, IllegalArgumentException, IllegalStateException {
        checkFeast(host, guests, size, witnesses);
        int share = customs.witnessShare(customs.inForce(now));
        int went = Integer.bitCount(guests) * size + Integer.bitCount(witnesses) * share;
        if (chiefs.blankets[host] < went) {
            return HAS_FEWER;
        }
        if (debtsMadeByFeast(host, guests, size) > debts.room()) {
            return ONE_DEBT_TOO_MANY;
        }
        for (int one = 0; one < chiefs.size; one++) {
            if (isIn(guests, one)) {
                chiefs.moveBlankets(host, one, size);
                recordGiven(host, one, size);
            } else if (isIn(witnesses, one)) {
                chiefs.moveBlankets(host, one, share);
            }
        }
        return went;
    }

    public int died(int chief, int heir)
            throws IndexOutOfBoundsException, IllegalArgumentException, IllegalStateException {
        checkChief(chief);
        checkChief(heir);
        if (chief == heir) {
            throw new IllegalArgumentException("a chief is not its own heir");
        }
        checkLives(chief);
        checkLives(heir);
        chiefs.moveBlankets(chief, heir, chiefs.blankets[chief]);
        chiefs.lives[chief] = false;
        coppers.inherit(chief, heir);
        return debts.inherit(chief, heir);
    }

    public int wait(int n) throws IllegalArgumentException {
        if (n < 0 || n > MOST_YEARS_AT_ONCE || now + n > LAST_YEAR) {
            throw new IllegalArgumentException("0 to 100 years go by, up to the year 1,000");
        }
        for (int i = 0; i < n; i++) {
            growLoans();
            now++;
        }
        return now;
    }

    public int debt(int debt, int what)
            throws IndexOutOfBoundsException, IllegalArgumentException {
        if (debt < 0 || debt >= debts.size) {
            throw new IndexOutOfBoundsException("no such debt");
        }
        switch (what) {
            case 0:
                return debts.debtor[debt];
            case 1:
                return debts.creditor[debt];
            case 2:
                return debts.left[debt];
            case 3:
                return debts.isLoan(debt) ? 1 : 0;
            case 4:
                return debts.due[debt];
            default:
                throw new IllegalArgumentException("of a debt 0 to 4 are told");
        }
    }

    public int late(int k) {
        return debts.overdue(k, now);
    }

    public int about(int chief, int what)
            throws IndexOutOfBoundsException, IllegalArgumentException {
        checkChief(chief);
        switch (what) {
            case 0:
                return chiefs.blankets[chief];
            case 1:
                return chiefs.lives[chief] ? 1 : 0;
            case 2:
                return chiefs.placeInRank(chief);
            default:
                throw new IllegalArgumentException("of a chief 0 to 2 are told");
        }
    }

    public long fame(int chief) throws IndexOutOfBoundsException {
        checkChief(chief);
        return chiefs.fame[chief];
    }

    public long gather(int chief, int year) throws IndexOutOfBoundsException {
        checkChief(chief);
        if (!chiefs.lives[chief]) {
            return NONE;
        }
        gathering.callIn(chiefs, debts, year);
        return gathering.most(chief);
    }

    public int hold(int chief, int year) throws IndexOutOfBoundsException {
        checkChief(chief);
        if (!chiefs.lives[chief]) {
            return NONE;
        }
        gathering.callIn(chiefs, debts, year);
        gathering.most(chief);
        return gathering.side();
    }

    public int count(int what) {
        switch (what) {
            case 0:
                return chiefs.size;
            case 1:
                return customs.size;
            case 2:
                return debts.size;
            case 3:
                return debts.open();
            case 4:
                return coppers.size;
            case 5:
                return now;
            case 6:
                return tape.length;
            default:
                return NONE;
        }
    }

    private static boolean isIn(int bits, int chief) {
        return (bits >> chief & 1) == 1;
    }

    private void checkChief(int chief) {
        if (chief < 0 || chief >= chiefs.size) {
            throw new IndexOutOfBoundsException("no such chief");
        }
    }

    private void checkLives(int chief) {
        if (!chiefs.lives[chief]) {
            throw new IllegalStateException("that chief died");
        }
    }

    private void checkCopper(int copper) {
        if (copper < 0 || copper >= coppers.size) {
            throw new IndexOutOfBoundsException("no such copper");
        }
    }

    private void checkHandingOver(int from, int to, int n) {
        checkChief(from);
        checkChief(to);
        if (from == to || n < 1) {
            throw new IllegalArgumentException("at least 1, from one chief to another one");
        }
        checkLives(from);
        checkLives(to);
    }

    private void checkFeast(int host, int guests, int size, int witnesses) {
        checkChief(host);
        int all = guests | witnesses;
        if (all >> chiefs.size != 0 || isIn(all, host) || (guests & witnesses) != 0) {
            throw new IllegalArgumentException("guests and witnesses are chiefs, each one once");
        }
        if (size < 1 || size > MOST_SIZE) {
            throw new IllegalArgumentException("a size is 1 to 100,000");
        }
        checkLives(host);
        for (int one = 0; one < chiefs.size; one++) {
            if (isIn(all, one)) {
                checkLives(one);
            }
        }
    }

    /** How many debts (0 or 1) it would make, if n were given now. */
    private int debtsMadeBy(int from, int to, int n) {
        long left = n - Math.min(n, debts.owed(from, to));
        return customs.askedFor(customs.inForce(now), left) > 0 ? 1 : 0;
    }

    private int debtsMadeByFeast(int host, int guests, int size) {
        int made = 0;
        for (int one = 0; one < chiefs.size; one++) {
            if (isIn(guests, one)) {
                // what one guest gets answers no debt to another guest, so each is told alone
                made += debtsMadeBy(host, one, size);
            }
        }
        return made;
    }

    /** Tells how much of n answered debts. */
    private int recordGiven(int from, int to, int n) {
        int answered = debts.answer(from, to, n);
        chiefs.fame[from] += n;
        int custom = customs.inForce(now);
        int asked = customs.askedFor(custom, n - answered);
        if (asked > 0) {
            debts.add(to, from, asked, now + customs.yearsToAnswer(custom));
        }
        return answered;
    }

    private void growLoans() {
        int custom = customs.inForce(now);
        for (int i = 0; i < debts.size; i++) {
            if (debts.isLoan(i)) {
                debts.left[i] = customs.grown(custom, debts.left[i]);
            }
        }
    }

    /** The bytes that came and were not yet read as a custom. */
    private static final class Tape {
        final byte[] bytes = new byte[MOST_TAPE];
        int length = 0;

        void append(int number) {
            for (int shift = 24; shift >= 0; shift -= 8) {
                bytes[length] = (byte) (number >> shift);
                length++;
            }
        }
    }

    /**
     * Reads a custom's text. Within a clause it goes on behind a fault, but keeps only
     * the first one: it never goes back, so that one is the first from the left.
     */
    private static final class TextReader {
        static final int NO_FAULT = 0;
        private static final int CANNOT_STAND = 1;
        private static final int WRONG_NUMBER = 2;
        private static final int ONE_CLAUSE_TOO_MANY = 3;
        private static final int MOST_CLAUSES = 8;
        private static final int MOST_NUMBER = 1_000;

        private final byte[] text = new byte[MOST_TAPE];
        private int length;
        private int at;
        int fault;
        int faultPlace;
        int returnTimes;
        int returnBy;
        int within;
        int loanTimes;
        int loanBy;
        int witness;

        /** The first n of the tape's bytes, which are at least so many. */
        void read(byte[] bytes, int n) {
            System.arraycopy(bytes, 0, text, 0, n);
            length = n;
            at = 0;
            fault = NO_FAULT;
            faultPlace = NONE;
            // by 0 stands for a clause that is not there: its other numbers do not count then
            returnBy = 0;
            loanBy = 0;
            witness = 0;
            skipBlanks();
            for (int before = 0; before <= MOST_CLAUSES && at < length; before++) {
                readClause(before);
                if (fault != NO_FAULT) {
                    return;
                }
                skipBlanks();
            }
        }

        private void readClause(int clausesBefore) {
            int start = at;
            skipLetters();
            boolean isReturn = spells(start, "return");
            boolean isLoan = spells(start, "loan");
            boolean isWitness = spells(start, "witness");
            if (!isReturn && !isLoan && !isWitness) {
                mark(CANNOT_STAND, start);
                return;
            }
            if (clausesBefore == MOST_CLAUSES) {
                mark(ONE_CLAUSE_TOO_MANY, start);
                return;
            }
            if (isReturn) {
                readReturn();
            } else if (isLoan) {
                readLoan();
            } else {
                witness = readNumber(0);
            }
            readSign(';');
        }

        private void readReturn() {
            returnTimes = readNumber(0);
            readSign('/');
            returnBy = readNumber(1);
            readWithin();
            within = readNumber(0);
        }

        private void readLoan() {
            loanTimes = readNumber(0);
            readSign('/');
            loanBy = readNumber(1);
        }

        private void readWithin() {
            skipBlanks();
            int start = at;
            skipLetters();
            if (!spells(start, "within")) {
                mark(CANNOT_STAND, start);
            }
        }

        private void readSign(char sign) {
            skipBlanks();
            if (at < length && text[at] == sign) {
                at++;
            } else {
                mark(CANNOT_STAND, at);
            }
        }

        private int readNumber(int least) {
            skipBlanks();
            int start = at;
            int value = 0;
            while (at < length && text[at] >= '0' && text[at] <= '9') {
                // cut just above the bound, as any count of digits may stand here
                value = Math.min(value * 10 + text[at] - '0', MOST_NUMBER + 1);
                at++;
            }
            if (at == start) {
                mark(CANNOT_STAND, start);
            } else if (value < least || value > MOST_NUMBER) {
                mark(WRONG_NUMBER, start);
            }
            return value;
        }

        private void skipBlanks() {
            while (at < length && text[at] == ' ') {
                at++;
            }
        }

        private void skipLetters() {
            while (at < length && text[at] >= 'a' && text[at] <= 'z') {
                at++;
            }
        }

        /** Whether the bytes from start to here are that word. */
        private boolean spells(int start, String word) {
            if (at - start != word.length()) {
                return false;
            }
            for (int i = 0; i < word.length(); i++) {
                if (text[start + i] != word.charAt(i)) {
                    return false;
                }
            }
            return true;
        }

        private void mark(int kind, int place) {
            if (fault == NO_FAULT) {
                fault = kind;
                faultPlace = place;
            }
        }
    }

    /** Customs by number; where one asks for no return or no growth, the number to divide by is 0. */
    private static final class Customs {
        private final int[] fromYear = new int[MOST_CUSTOMS];
        private final int[] returnTimes = new int[MOST_CUSTOMS];
        private final int[] returnBy = new int[MOST_CUSTOMS];
        private final int[] within = new int[MOST_CUSTOMS];
        private final int[] loanTimes = new int[MOST_CUSTOMS];
        private final int[] loanBy = new int[MOST_CUSTOMS];
        private final int[] witness = new int[MOST_CUSTOMS];
        int size = 0;

        int add(TextReader text, int year) {
            fromYear[size] = year;
            returnTimes[size] = text.returnTimes;
            returnBy[size] = text.returnBy;
            within[size] = text.within;
            loanTimes[size] = text.loanTimes;
            loanBy[size] = text.loanBy;
            witness[size] = text.witness;
            size++;
            return size - 1;
        }

        int inForce(int year) {
            int found = NONE;
            for (int i = 0; i < size; i++) {
                if (fromYear[i] <= year && (found == NONE || fromYear[i] >= fromYear[found])) {
                    found = i;
                }
            }
            return found;
        }

        int witnessShare(int custom) {
            return custom == NONE ? 0 : witness[custom];
        }

        int yearsToAnswer(int custom) {
            return custom == NONE ? 0 : within[custom];
        }

        /** How much a new gift must be answered by: 0, if by nothing. */
        int askedFor(int custom, long gift) {
            int by = custom == NONE ? 0 : returnBy[custom];
            if (by == 0) {
                return 0;
            }
            long asked = (gift * returnTimes[custom] + by - 1) / by;
            return (int) Math.min(asked, MOST_OWED);
        }

        /** What a loan is at a year's end, of which so much was left. */
        int grown(int custom, int left) {
            int by = custom == NONE ? 0 : loanBy[custom];
            if (by == 0) {
                return left;
            }
            long growth = (long) left * loanTimes[custom] / by;
            return (int) Math.min(left + growth, MOST_OWED);
        }
    }

    private static final class Chiefs {
        final int[] blankets = new int[MOST_CHIEFS];
        final long[] fame = new long[MOST_CHIEFS];
        final boolean[] lives = new boolean[MOST_CHIEFS];
        int size = 0;

        int add(int itsBlankets) {
            blankets[size] = itsBlankets;
            lives[size] = true;
            size++;
            return size - 1;
        }

        void moveBlankets(int from, int to, int n) {
            blankets[from] -= n;
            blankets[to] += n;
        }

        int placeInRank(int chief) {
            if (!lives[chief]) {
                return NONE;
            }
            int ahead = 0;
            for (int i = 0; i < size; i++) {
                boolean first = fame[i] > fame[chief] || fame[i] == fame[chief] && i < chief;
                if (lives[i] && first) {
                    ahead++;
                }
            }
            return ahead;
        }
    }

    private static final class Debts {
        static final int DUE_OF_LOANS = NONE;
        private static final int BEHIND_ALL_YEARS = 1_000_000;

        final int[] debtor = new int[MOST_DEBTS];
        final int[] creditor = new int[MOST_DEBTS];
        final int[] left = new int[MOST_DEBTS];
        final int[] due = new int[MOST_DEBTS];
        int size = 0;

        int add(int owes, int toWhom, int n, int dueYear) {
            debtor[size] = owes;
            creditor[size] = toWhom;
            left[size] = n;
            due[size] = dueYear;
            size++;
            return size - 1;
        }

        int room() {
            return MOST_DEBTS - size;
        }

        boolean isLoan(int debt) {
            return due[debt] == DUE_OF_LOANS;
        }

        int open() {
            int found = 0;
            for (int i = 0; i < size; i++) {
                if (left[i] > 0) {
                    found++;
                }
            }
            return found;
        }

        /** The k-th gift's debt, from 0 on, of which something is left behind its year. */
        int overdue(int k, int year) {
            int before = 0;
            for (int i = 0; i < size; i++) {
                if (left[i] > 0 && !isLoan(i) && due[i] < year) {
                    if (before == k) {
                        return i;
                    }
                    before++;
                }
            }
            return NONE;
        }

        private boolean isOpenBetween(int debt, int owes, int toWhom) {
            return left[debt] > 0 && debtor[debt] == owes && creditor[debt] == toWhom;
        }

        long owed(int owes, int toWhom) {
            long sum = 0;
            for (int i = 0; i < size; i++) {
                if (isOpenBetween(i, owes, toWhom)) {
                    sum += left[i];
                }
            }
            return sum;
        }

        /** Answers debts of the one to the other, as far as n goes: how much of n that took. */
        int answer(int owes, int toWhom, int n) {
            int rest = n;
            for (int round = 0; round < size && rest > 0; round++) {
                int next = firstToAnswer(owes, toWhom);
                if (next == NONE) {
                    break;
                }
                int part = Math.min(rest, left[next]);
                left[next] -= part;
                rest -= part;
            }
            return n - rest;
        }

        private int firstToAnswer(int owes, int toWhom) {
            int first = NONE;
            for (int i = 0; i < size; i++) {
                if (isOpenBetween(i, owes, toWhom) && (first == NONE || turn(i) < turn(first))) {
                    first = i;
                }
            }
            return first;
        }

        /** Gifts' debts come by the year in which they are due, loans' behind all of them. */
        private int turn(int debt) {
            return isLoan(debt) ? BEHIND_ALL_YEARS : due[debt];
        }

        /** Debts between both are gone, others become the heir's: how many these are. */
        int inherit(int dead, int heir) {
            int passed = 0;
            for (int i = 0; i < size; i++) {
                if (isOpenBetween(i, dead, heir) || isOpenBetween(i, heir, dead)) {
                    left[i] = 0;
                } else if (left[i] > 0 && debtor[i] == dead) {
                    debtor[i] = heir;
                    passed++;
                } else if (left[i] > 0 && creditor[i] == dead) {
                    creditor[i] = heir;
                    passed++;
                }
            }
            return passed;
        }
    }

    private static final class Coppers {
        private static final int PARTS = 8;

        final int[] owner = new int[MOST_COPPERS];
        private final int[] firstWorth = new int[MOST_COPPERS];
        final int[] worth = new int[MOST_COPPERS];
        int size = 0;

        int add(int itsOwner, int itsWorth) {
            owner[size] = itsOwner;
            firstWorth[size] = itsWorth;
            worth[size] = itsWorth;
            size++;
            return size - 1;
        }

        int breakOff(int copper) {
            int piece = Math.max(firstWorth[copper] / PARTS, 1);
            worth[copper] = Math.max(worth[copper] - piece, 0);
            return worth[copper];
        }

        void inherit(int dead, int heir) {
            for (int i = 0; i < size; i++) {
                if (owner[i] == dead) {
                    owner[i] = heir;
                }
            }
        }
    }

    /**
     * The greatest flow of blankets along debts to one chief. Each path on the way is a shortest one,
     * so there are fewer paths than chiefs times pairs of chiefs; the chiefs from which, at the end,
     * more could still go to it are the least set that holds the flow back.
     */
    private static final class Gathering {
        private static final int MOST_PATHS = 10_000;

        private final long[] stock = new long[MOST_CHIEFS];
        private final long[][] open = new long[MOST_CHIEFS][MOST_CHIEFS];
        private final boolean[] found = new boolean[MOST_CHIEFS];
        private final int[] next = new int[MOST_CHIEFS];
        private final int[] queue = new int[MOST_CHIEFS];

        /** Those who died have neither blankets nor open debts, so they need no test here. */
        void callIn(Chiefs chiefs, Debts debts, int year) {
            for (int i = 0; i < MOST_CHIEFS; i++) {
                stock[i] = chiefs.blankets[i];
                for (int j = 0; j < MOST_CHIEFS; j++) {
                    open[i][j] = 0;
                }
            }
            for (int i = 0; i < debts.size; i++) {
                if (debts.isLoan(i) || debts.due[i] <= year) {
                    open[debts.debtor[i]][debts.creditor[i]] += debts.left[i];
                }
            }
        }

        /** The most that the chief could have, of what was called in. */
        long most(int chief) {
            long gathered = stock[chief];
            stock[chief] = 0;
            for (int path = 0; path < MOST_PATHS; path++) {
                int giver = nearestGiver(chief);
                if (giver == NONE) {
                    break;
                }
                gathered += handOn(giver, chief);
            }
            return gathered;
        }

        /** The chiefs that the last search came to, as bits. */
        int side() {
            int bits = 0;
            for (int i = 0; i < MOST_CHIEFS; i++) {
                bits |= found[i] ? 1 << i : 0;
            }
            return bits;
        }

        /** Looks from the chief back along what is open, breadth first, for one that has blankets. */
        private int nearestGiver(int chief) {
            for (int i = 0; i < MOST_CHIEFS; i++) {
                found[i] = i == chief;
            }
            queue[0] = chief;
            int queued = 1;
            for (int i = 0; i < MOST_CHIEFS && i < queued; i++) {
                int here = queue[i];
                if (stock[here] > 0) {
                    return here;
                }
                for (int one = 0; one < MOST_CHIEFS; one++) {
                    if (!found[one] && open[one][here] > 0) {
                        found[one] = true;
                        next[one] = here;
                        queue[queued] = one;
                        queued++;
                    }
                }
            }
            return NONE;
        }

        /** Hands on as much as goes along the path that the search found. */
        private long handOn(int giver, int chief) {
            long most = stock[giver];
            int here = giver;
            for (int step = 0; step < MOST_CHIEFS && here != chief; step++) {
                most = Math.min(most, open[here][next[here]]);
                here = next[here];
            }
            stock[giver] -= most;
            here = giver;
            for (int step = 0; step < MOST_CHIEFS && here != chief; step++) {
                open[here][next[here]] -= most;
                open[next[here]][here] += most;
                here = next[here];
            }
            return most;
        }
    }
}
