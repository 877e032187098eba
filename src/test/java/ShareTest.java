/** Promise 12: share. */
public final class ShareTest {
    private static final long MOST = 1000000000000L;
    private static final int KEYS = 1000000;

    public static void main(String[] args) {
        Checks checks = new Checks("ShareTest");
        PortBills bills = new PortBills();
        long[][] right = {{0, 0, 1, 0}, {7, 1, 2, 3}, {7, 2, 2, 7}, {8, 1, 3, 2}, {2, 1, 3, 0}, {5, 0, 9, 0},
            {5, 3, 1, 15}, {MOST, KEYS, 1, MOST * KEYS}, {MOST, KEYS, KEYS, MOST}, {MOST, 1, KEYS, 1000000},
            {MOST - 1, 1, KEYS, 999999}, {MOST, 999999, KEYS, 999999000000L}, {MOST - 1, 999999, 7, 142857000000000000L - 142857}};
        for (long[] a : right) {
            checks.due("share(" + a[0] + ", " + a[1] + ", " + a[2] + ")", bills.share(a[0], (int) a[1], (int) a[2]), a[3]);
        }
        long[][] wrong = {{-1, 1, 1}, {MOST + 1, 1, 1}, {1, -1, 1}, {1, KEYS + 1, 1}, {1, 1, -1}, {1, 1, KEYS + 1},
            {-1, 1, 0}, {MOST + 1, 1, 0}, {1, -1, 0}, {1, KEYS + 1, 0}, {Long.MIN_VALUE, 1, 1}, {Long.MAX_VALUE, 1, 1},
            {1, Integer.MIN_VALUE, 1}, {1, Integer.MAX_VALUE, 1}, {1, 1, Integer.MIN_VALUE}, {1, 1, Integer.MAX_VALUE}};
        for (long[] a : wrong) {
            checks.dueIllegalArgument("share(" + a[0] + ", " + a[1] + ", " + a[2] + ")",
                () -> bills.share(a[0], (int) a[1], (int) a[2]));
        }
        checks.dueThrow("share(5, 1, 0)", ArithmeticException.class, () -> bills.share(5, 1, 0));
        checks.dueThrow("share(0, 0, 0)", ArithmeticException.class, () -> bills.share(0, 0, 0));
        checks.end();
    }
}
