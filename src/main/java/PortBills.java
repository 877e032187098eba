import java.util.ArrayList;
import java.util.Arrays;

/**
 * Port money: tariffs, events of calls, bills of them, corrections, disputes, and what is unpaid.
 * The words in capitals (RATE, CHARGED, FALLBACK ..) are those of the document's "Terms".
 */
public final class PortBills {
    public static final int NONE = -1;

    private static final int CALLS = 10;
    private static final int KINDS = 6;
    private static final int[] UNIT = {1, 1, 60, 1440, 1000, 1};

    // The parts of a tariff, numbered as the what of tariff() has them.
    private static final int RATE = 0;
    private static final int PER = 1;
    private static final int FREE = 2;
    private static final int LEAST = 3;
    private static final int TARIFF_PARTS = 4;
    private static final int FALLBACK_RATE = 7;

    private static final int MOST_AMOUNT = 50000;
    private static final int MOST_WAITING = 100;
    private static final int MOST_DISCOUNTS = 3;
    private static final int MOST_DOWN = 100;
    private static final int MOST_LINES = 200;
    private static final int MOST_KEY = 1000000;
    private static final long MOST_CENTS = 1000000000000L;

    // From these on the what of count() names a call.
    private static final int COUNT_LINES = 10;
    private static final int COUNT_EVENTS = 20;

    private final TariffText text = new TariffText();
    private final int[][] tariffs = new int[KINDS][TARIFF_PARTS];
    private int kindsWithTariff;

    // Of the events that wait only these sums are ever asked for, so no event is kept by itself.
    private final int[][] waitingUnits = new int[CALLS][KINDS];
    private final int[] waitingEvents = new int[CALLS];
    private int waitingInAll;

    // All discounts of a call and kind together leave kept / keptOf of the sum.
    private final int[][] discounts = new int[CALLS][KINDS];
    private final int[][] kept = new int[CALLS][KINDS];
    private final int[][] keptOf = new int[CALLS][KINDS];

    private final ArrayList<Line> lines = new ArrayList<>();
    private final long[] paid = new long[CALLS];

    public PortBills() {
        // A kind without a tariff holds the FALLBACK as its row, so that all kinds are billed alike.
        for (int kind = 0; kind < KINDS; kind++) {
            tariffs[kind][RATE] = FALLBACK_RATE;
            tariffs[kind][PER] = 1;
        }
        for (int call = 0; call < CALLS; call++) {
            Arrays.fill(kept[call], 1);
            Arrays.fill(keptOf[call], 1);
        }
    }

    public boolean sign(int c) {
        return text.takes(c);
    }

    public int read() {
        int answer = text.readRows();
        if (answer > 0) {
            takeOverTariffs();
        }
        text.clear();
        return answer;
    }

    public int tariff(int kind, int what) throws IllegalArgumentException {
        if (!isKind(kind) || what < 0 || what >= TARIFF_PARTS) {
            throw new IllegalArgumentException("no such kind or what");
        }
        return hasTariff(kind) ? tariffs[kind][what] : NONE;
    }

    public int event(int call, int kind, int amount) throws IllegalArgumentException, IllegalStateException {
        if (!isCall(call) || !isKind(kind) || amount < 1 || amount > MOST_AMOUNT) {
            throw new IllegalArgumentException("no such call, kind or amount");
        }
        if (waitingInAll >= MOST_WAITING) {
            throw new IllegalStateException("too many events wait");
        }
        int units = begunUnits(amount, UNIT[kind]);
        waitingUnits[call][kind] += units;
        waitingEvents[call]++;
        waitingInAll++;
        return units;
    }

    public boolean discount(int call, int kind, int up, int down) {
        if (!isCall(call) || !isKind(kind) || down < 1 || down > MOST_DOWN || up < 0 || up > down) {
            return false;
        }
        if (discounts[call][kind] >= MOST_DISCOUNTS) {
            return false;
        }
        discounts[call][kind]++;
        kept[call][kind] *= down - up;
        keptOf[call][kind] *= down;
        return true;
    }

    public int bill(int call) throws IllegalArgumentException, IllegalStateException {
        if (!isCall(call)) {
            throw new IllegalArgumentException("no such call");
        }
        int more = kindsThatWait(call);
        if (lines.size() + more > MOST_LINES) {
            throw new IllegalStateException("no room for the lines");
        }
        for (int kind = 0; kind < KINDS; kind++) {
            if (waitingUnits[call][kind] > 0) {
                lines.add(billedLine(call, kind));
            }
        }
        forgetEvents(call);
        return more;
    }

    public int correct(int line, long cents) throws IllegalArgumentException, IllegalStateException {
        if (!isLine(line) || cents < 0 || cents > MOST_CENTS) {
            throw new IllegalArgumentException("no such line or cents");
        }
        if (lines.size() >= MOST_LINES) {
            throw new IllegalStateException("no room for the line");
        }
        Line wrong = lines.get(line);
        if (wrong.isCorrection() || wrong.corrected == cents) {
            return NONE;
        }
        Line correction = new Line(wrong.call, wrong.kind, 0, 0, cents - wrong.corrected, line, false);
        correction.disputed = wrong.disputed;
        wrong.corrected = cents;
        lines.add(correction);
        return lines.size() - 1;
    }

    public int dispute(int line, boolean is) throws IllegalArgumentException {
        if (!isLine(line)) {
            throw new IllegalArgumentException("no such line");
        }
        Line meant = lines.get(line);
        if (meant.isCorrection() || meant.disputed == is) {
            return 0;
        }
        meant.disputed = is;
        for (int i = 0; i < lines.size(); i++) {
            Line other = lines.get(i);
            if (other.corrects == line) {
                other.disputed = is;
            }
        }
        return 1;
    }

    public long pay(int call, long cents) throws IllegalArgumentException {
        if (!isCall(call) || cents < 1 || cents > MOST_CENTS) {
            throw new IllegalArgumentException("no such call or cents");
        }
        paid[call] += cents;
        return owedNow(call);
    }

    public long unpaid(int call) throws IllegalArgumentException {
        if (!isCall(call)) {
            throw new IllegalArgumentException("no such call");
        }
        return owedNow(call);
    }

    public long share(long cents, int key, int all) throws IllegalArgumentException, ArithmeticException {
        if (cents < 0 || cents > MOST_CENTS || !isKey(key) || !isKey(all)) {
            throw new IllegalArgumentException("no such cents or keys");
        }
        if (all == 0) {
            throw new ArithmeticException("no keys at all");
        }
        return quotient(cents * key, all);
    }

    public long line(int i, int what) throws IndexOutOfBoundsException {
        if (!isLine(i) || what < 0 || what >= Line.PARTS) {
            throw new IndexOutOfBoundsException("no such line or what");
        }
        return lines.get(i).part(what);
    }

    public int count(int what) {
        if (isCall(what - COUNT_LINES)) {
            return linesOf(what - COUNT_LINES);
        }
        if (isCall(what - COUNT_EVENTS)) {
            return waitingEvents[what - COUNT_EVENTS];
        }
        switch (what) {
            case 0: return text.length;
            case 1: return waitingInAll;
            case 2: return lines.size();
            case 3: return kindsWithTariff;
            default: return NONE;
        }
    }

    private static boolean isCall(int call) {
        return call >= 0 && call < CALLS;
    }

    private static boolean isKind(int kind) {
        return kind >= 0 && kind < KINDS;
    }

    private static boolean isKey(int key) {
        return key >= 0 && key <= MOST_KEY;
    }

    private boolean isLine(int line) {
        return line >= 0 && line < lines.size();
    }

    private boolean hasTariff(int kind) {
        return (kindsWithTariff >> kind & 1) == 1;
    }

    private void takeOverTariffs() {
        for (int kind = 0; kind < KINDS; kind++) {
            if ((text.kinds >> kind & 1) == 1) {
                System.arraycopy(text.rows[kind], 0, tariffs[kind], 0, TARIFF_PARTS);
            }
        }
        kindsWithTariff |= text.kinds;
    }

    private int kindsThatWait(int call) {
        int found = 0;
        for (int kind = 0; kind < KINDS; kind++) {
            if (waitingUnits[call][kind] > 0) {
                found++;
            }
        }
        return found;
    }

    private void forgetEvents(int call) {
        Arrays.fill(waitingUnits[call], 0);
        waitingInAll -= waitingEvents[call];
        waitingEvents[call] = 0;
    }

    private Line billedLine(int call, int kind) {
        int units = waitingUnits[call][kind];
        int charged = Math.max(0, units - tariffs[kind][FREE]);
        return new Line(call, kind, units, charged, centsFor(call, kind, charged), NONE, !hasTariff(kind));
    }

    private long centsFor(int call, int kind, int charged) {
        if (charged == 0) {
            return 0;
        }
        // A long just holds it: at most 999999 cents * (100 * 50000) units * 100^3 of the discounts.
        long over = (long) tariffs[kind][RATE] * charged * kept[call][kind];
        long under = (long) tariffs[kind][PER] * keptOf[call][kind];
        return Math.max(roundedHalfUp(over, under), tariffs[kind][LEAST]);
    }

    private long owedNow(int call) {
        long owed = -paid[call];
        for (int i = 0; i < lines.size(); i++) {
            Line each = lines.get(i);
            if (each.call == call && !each.disputed) {
                owed += each.cents;
            }
        }
        return owed;
    }

    private int linesOf(int call) {
        int found = 0;
        for (int i = 0; i < lines.size(); i++) {
            if (lines.get(i).call == call) {
                found++;
            }
        }
        return found;
    }

    private static int begunUnits(int amount, int unit) {
        return (int) quotient(amount - 1, unit) + 1;
    }

    private static long roundedHalfUp(long over, long under) {
        long whole = quotient(over, under);
        long rest = over - whole * under;
        // Not (2 * over + under) / (2 * under): twice the largest sum is more than a long holds.
        return 2 * rest >= under ? whole + 1 : whole;
    }

    // Every division goes through here, so that none can be by 0.
    private static long quotient(long over, long under) {
        return under < 1 ? 0 : over / under;
    }

    /** The signs of the text that came since the last reading, and the rows that a reading finds. */
    private static final class TariffText {
        private static final int MOST_SIGNS = 120;
        private static final int MOST_ROWS = 40; // the shortest row has three signs
        private static final int FIRST_SIGN = 33;
        private static final int LAST_SIGN = 126;
        private static final char END = 0; // no sign of a text

        private final char[] signs = new char[MOST_SIGNS];
        private int length;
        // While it is read: the place of the next sign; where it can't go on, THE FIRST WRONG PLACE.
        private int at;
        private final int[][] rows = new int[KINDS][TARIFF_PARTS];
        private int kinds;

        private boolean takes(int c) {
            if (c < FIRST_SIGN || c > LAST_SIGN || length >= MOST_SIGNS) {
                return false;
            }
            signs[length] = (char) c;
            length++;
            return true;
        }

        private void clear() {
            length = 0;
        }

        private int readRows() {
            at = 0;
            kinds = 0;
            int found = 0;
            while (found < MOST_ROWS && readRow()) {
                found++;
                if (at == length) {
                    return found;
                }
            }
            return -1 - at;
        }

        private boolean readRow() {
            int kind = next() - 'A';
            if (!isKind(kind)) {
                return false;
            }
            at++;
            kinds |= 1 << kind;
            int[] row = rows[kind];
            row[PER] = 1;
            row[FREE] = 0;
            row[LEAST] = 0;
            return readNumber(row, RATE, 6)
                && (!passes('/') || readNumber(row, PER, 4) && row[PER] > 0)
                && (!passes('-') || readNumber(row, FREE, 4))
                && (!passes('>') || readNumber(row, LEAST, 6))
                && passes(';');
        }

        // A digit too many is left standing: nothing that may follow a number passes it.
        private boolean readNumber(int[] row, int part, int mostDigits) {
            int digits = 0;
            int number = 0;
            while (digits < mostDigits && isDigit(next())) {
                number = number * 10 + (next() - '0');
                digits++;
                at++;
            }
            row[part] = number;
            return digits > 0;
        }

        private boolean passes(char wanted) {
            if (next() != wanted) {
                return false;
            }
            at++;
            return true;
        }

        private char next() {
            return at < length ? signs[at] : END;
        }

        private static boolean isDigit(char sign) {
            return sign >= '0' && sign <= '9';
        }
    }

    /** A line of a bill, or a correction of one. */
    private static final class Line {
        private static final int PARTS = 9;

        private final int call;
        private final int kind;
        private final int units;
        private final int charged;
        private final long cents;
        private final int corrects;
        private final boolean byFallback;
        private boolean disputed;
        private long corrected; // the cents with all corrections so far

        private Line(int call, int kind, int units, int charged, long cents, int corrects, boolean byFallback) {
            this.call = call;
            this.kind = kind;
            this.units = units;
            this.charged = charged;
            this.cents = cents;
            this.corrects = corrects;
            this.byFallback = byFallback;
            this.corrected = cents;
        }

        private boolean isCorrection() {
            return corrects != NONE;
        }

        // Numbered as the what of line() has them.
        private long part(int what) {
            switch (what) {
                case 0: return call;
                case 1: return kind;
                case 2: return units;
                case 3: return charged;
                case 4: return cents;
                case 5: return corrects;
                case 6: return disputed ? 1 : 0;
                case 7: return byFallback ? 1 : 0;
                default: return corrected;
            }
        }
    }
}
