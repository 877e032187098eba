/** Promise 12: share. */
public final class ShareTest {
    private static final long MOST = 1000000000000L;
    private static final int KEYS = 1000000;

    public static void main(String[] args) {
        Checks checks = new Checks("ShareTest");
        roundedDown(checks);
        theLeastAndTheMost(checks);
        aKeyAboveAll(checks);
        centsThatCannotBe(checks);
        keysThatCannotBe(checks);
        allIs0(checks);
        aWrongArgumentIsToldFirst(checks);
        askingChangesNothing(checks);
        checks.end();
    }

    private static void due(Checks checks, long cents, int key, int all, long want) {
        PortBills bills = new PortBills();
        checks.dueAnswer(named(cents, key, all), () -> bills.share(cents, key, all), want);
    }

    private static String named(long cents, long key, long all) {
        return "share(" + cents + ", " + key + ", " + all + ")";
    }

    private static void roundedDown(Checks checks) {
        due(checks, 7, 1, 2, 3);
        due(checks, 7, 2, 2, 7);
        due(checks, 8, 1, 3, 2);
        due(checks, 2, 1, 3, 0);
        due(checks, 1, 999999, KEYS, 0);
        due(checks, 1, KEYS, KEYS, 1);
        due(checks, 999999, 1, KEYS, 0);
        due(checks, 1000000, 1, KEYS, 1);
        due(checks, 1000001, 1, KEYS, 1);
        due(checks, MOST - 1, 1, KEYS, 999999);
        due(checks, MOST - 1, 999999, 7, 142857000000000000L - 142857);
    }

    private static void theLeastAndTheMost(Checks checks) {
        due(checks, 0, 0, 1, 0);
        due(checks, 0, KEYS, 1, 0);
        due(checks, 0, KEYS, KEYS, 0);
        due(checks, MOST, 0, 1, 0);
        due(checks, MOST, 0, KEYS, 0);
        due(checks, MOST, 1, 1, MOST);
        due(checks, MOST, 1, KEYS, 1000000);
        due(checks, MOST, KEYS, KEYS, MOST);
        due(checks, MOST, 999999, KEYS, 999999000000L);
        due(checks, MOST, KEYS, 999999, 1000001000001L);
    }

    private static void aKeyAboveAll(Checks checks) {
        due(checks, 5, 3, 1, 15);
        due(checks, 5, 3, 2, 7);
        due(checks, MOST, KEYS, 1, MOST * KEYS);
        due(checks, MOST, KEYS, 3, 333333333333333333L);
    }

    private static void dueWrong(Checks checks, long[] cents, int[] keys, int[] alls) {
        Untouched busy = new Untouched(checks, Untouched::busyWithText);
        for (long sum : cents) {
            for (int key : keys) {
                for (int all : alls) {
                    busy.dueIllegalArgument(named(sum, key, all), bills -> bills.share(sum, key, all));
                }
            }
        }
    }

    private static void centsThatCannotBe(Checks checks) {
        long[] wrong = {-1, MOST + 1, -MOST, Long.MIN_VALUE, Long.MAX_VALUE};
        dueWrong(checks, wrong, new int[] {0, 1, KEYS}, new int[] {1, KEYS});
    }

    private static void keysThatCannotBe(Checks checks) {
        int[] wrong = {-1, KEYS + 1, -KEYS, Integer.MIN_VALUE, Integer.MAX_VALUE};
        int[] right = {1, KEYS};
        long[] cents = {0, MOST};
        dueWrong(checks, cents, wrong, right);
        dueWrong(checks, cents, right, wrong);
        dueWrong(checks, cents, new int[] {0}, wrong);
    }

    private static void allIs0(Checks checks) {
        Untouched busy = new Untouched(checks, Untouched::busyWithText);
        for (long cents : new long[] {0, 1, MOST}) {
            for (int key : new int[] {0, 1, KEYS}) {
                busy.dueThrow(named(cents, key, 0), ArithmeticException.class, bills -> bills.share(cents, key, 0));
            }
        }
    }

    private static void aWrongArgumentIsToldFirst(Checks checks) {
        dueWrong(checks, new long[] {-1, MOST + 1}, new int[] {0, 1, KEYS}, new int[] {0});
        dueWrong(checks, new long[] {0, MOST}, new int[] {-1, KEYS + 1}, new int[] {0});
    }

    private static void askingChangesNothing(Checks checks) {
        Untouched busy = new Untouched(checks, Untouched::busyWithText);
        busy.due("share(50, 1, 3)", bills -> bills.share(50, 1, 3), 16);
    }
}
