/** Promise 13: line. What its parts are in bills, corrections and disputes, the tests of those look at. */
public final class LineTest {
    public static void main(String[] args) {
        Checks checks = new Checks("LineTest");
        PortBills bills = new PortBills();
        Checks.readText(bills, "C30/7-2>5;");
        bills.event(8, 2, 600);
        bills.event(8, 3, 1);
        bills.bill(8);
        bills.correct(0, 20);
        bills.correct(0, 33);
        bills.dispute(0, true);
        // 30 * 8 / 7 = 34.29
        long[][] want = {{8, 2, 10, 8, 34, -1, 1, 0, 33}, {8, 3, 1, 1, 7, -1, 0, 1, 7},
            {8, 2, 0, 0, -14, 0, 1, 0, -14}, {8, 2, 0, 0, 13, 0, 1, 0, 13}};
        for (int i = 0; i < want.length; i++) {
            checks.dueLine(bills, i, want[i]);
        }
        int[][] wrong = {{-1, 0}, {4, 0}, {0, -1}, {0, 9}, {200, 0}, {-1, -1}, {4, 9}, {Integer.MIN_VALUE, 0},
            {Integer.MAX_VALUE, 0}, {0, Integer.MIN_VALUE}, {0, Integer.MAX_VALUE}};
        for (int[] a : wrong) {
            checks.dueThrow("line(" + a[0] + ", " + a[1] + ")", IndexOutOfBoundsException.class,
                () -> bills.line(a[0], a[1]));
        }
        lastOf200(checks);
        checks.end();
    }

    private static void lastOf200(Checks checks) {
        PortBills bills = new PortBills();
        Checks.fillLines(bills, 3, 200);
        checks.due("line(199, 0)", bills.line(199, 0), 3);
        checks.due("line(199, 4)", bills.line(199, 4), 7);
        checks.dueThrow("line(200, 0)", IndexOutOfBoundsException.class, () -> bills.line(200, 0));
    }
}
