import java.util.Random;

/** All promises together: runs of calls, drawn with fixed seeds, against the Model; wild arguments among them. */
public final class RandomRunsTest {
    private static final int RUNS = 800;
    // An object answers 512 calls: what these leave is for the look at its end.
    private static final int CALLS = 400;
    private static final int LINES_LOOKED_AT = 5;
    private static final String SIGNS = "ABCDEF0123456789/->;";

    private final Checks checks = new Checks("RandomRunsTest");
    private Random random;
    private PortBills bills;
    private Model model;
    private String pending = "";

    public static void main(String[] args) {
        RandomRunsTest test = new RandomRunsTest();
        for (int run = 0; run < RUNS; run++) {
            test.run(run);
        }
        test.checks.end();
    }

    private void run(int seed) {
        random = new Random(seed);
        bills = new PortBills();
        model = new Model();
        pending = "";
        // Some runs have few calls of ports and many events, so that the limits are reached.
        int calls = 1 + random.nextInt(10);
        int wild = random.nextInt(3) == 0 ? 4 : 40;
        int[] weights = new int[13];
        for (int i = 0; i < weights.length; i++) {
            weights[i] = 1 + random.nextInt(random.nextInt(4) == 0 ? 40 : 6);
        }
        for (int i = 0; i < CALLS; i++) {
            step("seed " + seed + ", call " + i + ": ", drawn(weights), calls, wild);
        }
        lookAtTheEnd("seed " + seed + ", at its end: ");
    }

    private int drawn(int[] weights) {
        if (!pending.isEmpty() && random.nextInt(20) > 0) {
            return 0;
        }
        int sum = 0;
        for (int weight : weights) {
            sum += weight;
        }
        int left = random.nextInt(sum);
        for (int i = 0; i < weights.length; i++) {
            left -= weights[i];
            if (left < 0) {
                return i;
            }
        }
        return 0;
    }

    private void step(String where, int method, int calls, int wild) {
        int call = wildOr(wild, random.nextInt(calls));
        int kind = wildOr(wild, random.nextInt(6));
        int line = wildOr(wild, random.nextInt(Math.max(1, model.count(2))));
        int small = wildOr(wild, random.nextInt(10));
        switch (method) {
            case 0 -> {
                int c = wildOr(wild * 10, nextSign());
                same(where + "sign(" + c + ")", () -> bills.sign(c) ? 1 : 0, () -> model.sign(c) ? 1 : 0);
            }
            case 1 -> same(where + "read()", () -> bills.read(), () -> model.read());
            case 2 -> {
                int what = wildOr(wild, random.nextInt(4));
                same(where + "tariff(" + kind + ", " + what + ")",
                    () -> bills.tariff(kind, what), () -> model.tariff(kind, what));
            }
            case 3 -> {
                int amount = wildOr(wild, 1 + random.nextInt(random.nextBoolean() ? 50000 : 100));
                same(where + "event(" + call + ", " + kind + ", " + amount + ")",
                    () -> bills.event(call, kind, amount), () -> model.event(call, kind, amount));
            }
            case 4 -> {
                int down = wildOr(wild, 1 + random.nextInt(100));
                int up = wildOr(wild, random.nextInt(Math.max(1, Math.abs(down % 101)) + 1));
                same(where + "discount(" + call + ", " + kind + ", " + up + ", " + down + ")",
                    () -> bills.discount(call, kind, up, down) ? 1 : 0, () -> model.discount(call, kind, up, down) ? 1 : 0);
            }
            case 5 -> same(where + "bill(" + call + ")", () -> bills.bill(call), () -> model.bill(call));
            case 6 -> {
                long cents = cents(wild);
                same(where + "correct(" + line + ", " + cents + ")",
                    () -> bills.correct(line, cents), () -> model.correct(line, cents));
            }
            case 7 -> {
                boolean is = random.nextBoolean();
                same(where + "dispute(" + line + ", " + is + ")", () -> bills.dispute(line, is), () -> model.dispute(line, is));
            }
            case 8 -> {
                long cents = cents(wild);
                same(where + "pay(" + call + ", " + cents + ")", () -> bills.pay(call, cents), () -> model.pay(call, cents));
            }
            case 9 -> same(where + "unpaid(" + call + ")", () -> bills.unpaid(call), () -> model.unpaid(call));
            case 10 -> {
                long cents = cents(wild);
                int key = wildOr(wild, random.nextInt(1000001));
                int all = wildOr(wild, random.nextInt(random.nextBoolean() ? 1000001 : 10));
                same(where + "share(" + cents + ", " + key + ", " + all + ")",
                    () -> bills.share(cents, key, all), () -> model.share(cents, key, all));
            }
            case 11 -> same(where + "line(" + line + ", " + small + ")",
                () -> bills.line(line, small), () -> model.line(line, small));
            default -> {
                int what = wildOr(wild, random.nextInt(32) - 1);
                same(where + "count(" + what + ")", () -> bills.count(what), () -> model.count(what));
            }
        }
    }

    /** Mostly the next sign of a drawn right text, at times one changed. */
    private int nextSign() {
        if (pending.isEmpty()) {
            StringBuilder drawn = new StringBuilder();
            for (int rows = 1 + random.nextInt(3); rows > 0; rows--) {
                drawn.append((char) ('A' + random.nextInt(6))).append(digits(6));
                drawn.append(random.nextBoolean() ? "/" + digits(4) : "").append(random.nextBoolean() ? "-" + digits(4) : "");
                drawn.append(random.nextBoolean() ? ">" + digits(6) : "").append(';');
            }
            pending = drawn.toString();
        }
        char next = pending.charAt(0);
        pending = pending.substring(1);
        return random.nextInt(60) == 0 ? SIGNS.charAt(random.nextInt(SIGNS.length())) : next;
    }

    private String digits(int most) {
        StringBuilder drawn = new StringBuilder();
        int many = random.nextInt(80) == 0 ? most + 1 : 1 + random.nextInt(most);
        for (int i = 0; i < many; i++) {
            drawn.append((char) ('0' + (random.nextInt(3) == 0 ? 0 : random.nextInt(10))));
        }
        return drawn.toString();
    }

    private int wildOr(int wild, int tame) {
        if (random.nextInt(wild) > 0) {
            return tame;
        }
        int[] choice = {-1, 0, 1, 6, 9, 10, 20, 100, 101, 200, 50000, 50001, 1000000, 1000001, Integer.MIN_VALUE,
            Integer.MAX_VALUE, random.nextInt(), -tame, tame + 1};
        return choice[random.nextInt(choice.length)];
    }

    private long cents(int wild) {
        if (random.nextInt(wild) > 0) {
            return random.nextInt(3) == 0 ? random.nextLong(1000000000001L) : random.nextInt(5);
        }
        long[] choice = {-1, 0, 1, 999999999999L, 1000000000000L, 1000000000001L, Long.MIN_VALUE, Long.MAX_VALUE, random.nextLong()};
        return choice[random.nextInt(choice.length)];
    }

    private void same(String call, Checks.Call got, Checks.Call want) {
        long answer;
        try {
            answer = want.answer();
        } catch (RuntimeException thrown) {
            checks.dueThrow(call, thrown.getClass(), got);
            return;
        }
        checks.dueAnswer(call, got, answer);
    }

    private void lookAtTheEnd(String where) {
        for (int what = -1; what <= 30; what++) {
            checks.due(where + "count(" + what + ")", bills.count(what), model.count(what));
        }
        for (int kind = 0; kind < 6; kind++) {
            for (int what = 0; what < 4; what++) {
                checks.due(where + "tariff(" + kind + ", " + what + ")", bills.tariff(kind, what), model.tariff(kind, what));
            }
        }
        for (int call = 0; call < 10; call++) {
            checks.due(where + "unpaid(" + call + ")", bills.unpaid(call), model.unpaid(call));
        }
        for (int look = 0; look < LINES_LOOKED_AT && model.count(2) > 0; look++) {
            int i = random.nextInt(model.count(2));
            for (int what = 0; what < 9; what++) {
                checks.due(where + "line(" + i + ", " + what + ")", bills.line(i, what), model.line(i, what));
            }
        }
    }
}
