import java.math.BigDecimal;
import java.math.BigInteger;
import java.util.ArrayList;
import java.util.List;
import java.util.regex.Matcher;
import java.util.regex.Pattern;

/** The document told once more, in another way than the class: every event kept, fractions exact, the text by patterns. */
final class Model {
    private static final int[] UNIT = {1, 1, 60, 1440, 1000, 1};
    private static final BigDecimal MOST = new BigDecimal("1000000000000");
    private static final Pattern ROWS = Pattern.compile("(?:[A-F]\\d{1,6}(?:/\\d{1,4})?(?:-\\d{1,4})?(?:>\\d{1,6})?;)+");
    private static final Pattern ROW = Pattern.compile("([A-F])(\\d+)(?:/(\\d+))?(?:-(\\d+))?(?:>(\\d+))?;");
    private static final Pattern PER_ZERO = Pattern.compile("/(?:0000|0{1,3}(?!\\d))");

    record Event(int call, int kind, int units) { }

    record Discount(int call, int kind, int up, int down) { }

    record Row(int call, int kind, long units, long charged, long cents, int corrects, boolean fallback) { }

    private final StringBuilder text = new StringBuilder();
    private final int[][] tariffs = new int[6][];
    private final List<Event> events = new ArrayList<>();
    private final List<Discount> discounts = new ArrayList<>();
    private final List<Row> rows = new ArrayList<>();
    private final List<Integer> disputed = new ArrayList<>();
    private final List<long[]> payments = new ArrayList<>();

    boolean sign(int c) {
        if (c <= 32 || c >= 127 || text.length() == 120) {
            return false;
        }
        text.append((char) c);
        return true;
    }

    int read() {
        String whole = text.toString();
        text.setLength(0);
        int place = firstWrongPlace(whole);
        if (place >= 0) {
            return -1 - place;
        }
        int found = 0;
        for (Matcher row = ROW.matcher(whole); row.find(); found++) {
            tariffs[row.group(1).charAt(0) - 'A'] = new int[] {
                number(row.group(2), 0), number(row.group(3), 1), number(row.group(4), 0), number(row.group(5), 0)};
        }
        return found;
    }

    private static int number(String digits, int without) {
        return digits == null ? without : Integer.parseInt(digits);
    }

    /** The shortest beginning that no right text has ends with the sign that can't stand there. */
    private static int firstWrongPlace(String whole) {
        int place = 0;
        while (place < whole.length() && mayBegin(whole.substring(0, place + 1))) {
            place++;
        }
        Matcher zero = PER_ZERO.matcher(whole);
        if (zero.find() && zero.end() <= place) {
            return zero.end();
        }
        return place == whole.length() && ROWS.matcher(whole).matches() ? -1 : place;
    }

    private static boolean mayBegin(String beginning) {
        Matcher matcher = ROWS.matcher(beginning);
        return matcher.matches() || matcher.hitEnd();
    }

    int tariff(int kind, int what) {
        illegalArgumentUnless(in(kind, 0, 5) && in(what, 0, 3));
        return tariffs[kind] == null ? -1 : tariffs[kind][what];
    }

    int event(int call, int kind, int amount) {
        illegalArgumentUnless(in(call, 0, 9) && in(kind, 0, 5) && in(amount, 1, 50000));
        illegalStateUnless(events.size() < 100);
        int units = amount / UNIT[kind] + (amount % UNIT[kind] == 0 ? 0 : 1);
        events.add(new Event(call, kind, units));
        return units;
    }

    boolean discount(int call, int kind, int up, int down) {
        if (!in(call, 0, 9) || !in(kind, 0, 5) || !in(down, 1, 100) || !in(up, 0, down)) {
            return false;
        }
        if (discounts.stream().filter(d -> d.call == call && d.kind == kind).count() == 3) {
            return false;
        }
        return discounts.add(new Discount(call, kind, up, down));
    }

    int bill(int call) {
        illegalArgumentUnless(in(call, 0, 9));
        List<Row> more = new ArrayList<>();
        for (int kind = 0; kind < 6; kind++) {
            int kindNow = kind;
            if (events.stream().anyMatch(e -> e.call == call && e.kind == kindNow)) {
                more.add(billed(call, kind));
            }
        }
        illegalStateUnless(rows.size() + more.size() <= 200);
        rows.addAll(more);
        events.removeIf(e -> e.call == call);
        return more.size();
    }

    private Row billed(int call, int kind) {
        int[] tariff = tariffs[kind] == null ? new int[] {7, 1, 0, 0} : tariffs[kind];
        long units = events.stream().filter(e -> e.call == call && e.kind == kind).mapToLong(Event::units).sum();
        long charged = units > tariff[2] ? units - tariff[2] : 0;
        BigInteger over = BigInteger.valueOf(tariff[0]).multiply(BigInteger.valueOf(charged));
        BigInteger under = BigInteger.valueOf(tariff[1]);
        for (Discount d : discounts) {
            if (d.call == call && d.kind == kind) {
                over = over.multiply(BigInteger.valueOf(d.down - d.up));
                under = under.multiply(BigInteger.valueOf(d.down));
            }
        }
        BigInteger two = BigInteger.TWO;
        long cents = over.multiply(two).add(under).divide(under.multiply(two)).longValueExact();
        if (charged > 0 && cents < tariff[3]) {
            cents = tariff[3];
        }
        return new Row(call, kind, units, charged, cents, -1, tariffs[kind] == null);
    }

    int correct(int line, long cents) {
        illegalArgumentUnless(in(line, 0, rows.size() - 1) && isSum(cents));
        illegalStateUnless(rows.size() < 200);
        Row row = rows.get(line);
        if (row.corrects >= 0 || withCorrections(line) == cents) {
            return -1;
        }
        rows.add(new Row(row.call, row.kind, 0, 0, cents - withCorrections(line), line, false));
        return rows.size() - 1;
    }

    private long withCorrections(int line) {
        return rows.get(line).cents + rows.stream().filter(r -> r.corrects == line).mapToLong(Row::cents).sum();
    }

    int dispute(int line, boolean is) {
        illegalArgumentUnless(in(line, 0, rows.size() - 1));
        if (rows.get(line).corrects >= 0 || disputed.contains(line) == is) {
            return 0;
        }
        if (is) {
            disputed.add(line);
        } else {
            disputed.remove((Integer) line);
        }
        return 1;
    }

    private boolean isDisputed(int line) {
        int corrects = rows.get(line).corrects;
        return disputed.contains(corrects >= 0 ? corrects : line);
    }

    long pay(int call, long cents) {
        illegalArgumentUnless(in(call, 0, 9) && cents != 0 && isSum(cents));
        payments.add(new long[] {call, cents});
        return unpaid(call);
    }

    long unpaid(int call) {
        illegalArgumentUnless(in(call, 0, 9));
        long sum = 0;
        for (int i = 0; i < rows.size(); i++) {
            if (rows.get(i).call == call && !isDisputed(i)) {
                sum += rows.get(i).cents;
            }
        }
        for (long[] payment : payments) {
            sum -= payment[0] == call ? payment[1] : 0;
        }
        return sum;
    }

    long share(long cents, int key, int all) {
        illegalArgumentUnless(isSum(cents) && in(key, 0, 1000000) && in(all, 0, 1000000));
        if (all == 0) {
            throw new ArithmeticException();
        }
        return BigInteger.valueOf(cents).multiply(BigInteger.valueOf(key)).divide(BigInteger.valueOf(all)).longValueExact();
    }

    long line(int i, int what) {
        if (!in(i, 0, rows.size() - 1) || !in(what, 0, 8)) {
            throw new IndexOutOfBoundsException();
        }
        Row row = rows.get(i);
        long[] parts = {row.call, row.kind, row.units, row.charged, row.cents, row.corrects, isDisputed(i) ? 1 : 0,
            row.fallback ? 1 : 0, withCorrections(i)};
        return parts[what];
    }

    int count(int what) {
        if (in(what, 10, 19)) {
            return (int) rows.stream().filter(r -> r.call == what - 10).count();
        }
        if (in(what, 20, 29)) {
            return (int) events.stream().filter(e -> e.call == what - 20).count();
        }
        int bits = 0;
        for (int kind = 0; kind < 6; kind++) {
            bits += tariffs[kind] == null ? 0 : 1 << kind;
        }
        int[] first = {text.length(), events.size(), rows.size(), bits};
        return in(what, 0, 3) ? first[what] : -1;
    }

    private static boolean in(int x, int least, int most) {
        return least <= x && x <= most;
    }

    private static boolean isSum(long cents) {
        return cents >= 0 && BigDecimal.valueOf(cents).compareTo(MOST) <= 0;
    }

    private static void illegalArgumentUnless(boolean right) {
        if (!right) {
            throw new IllegalArgumentException();
        }
    }

    private static void illegalStateUnless(boolean right) {
        if (!right) {
            throw new IllegalStateException();
        }
    }
}
