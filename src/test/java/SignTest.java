/** Promise 2: sign. */
public final class SignTest {
    public static void main(String[] args) {
        Checks checks = new Checks("SignTest");
        onlySignsFrom33To126(checks);
        atMost120(checks);
        checks.end();
    }

    private static void onlySignsFrom33To126(Checks checks) {
        int[] wrong = {Integer.MIN_VALUE, -1, 0, 10, 31, 32, 127, 128, 255, 65 + 65536, Integer.MAX_VALUE};
        PortBills bills = new PortBills();
        for (int c : wrong) {
            checks.due("sign(" + c + ")", bills.sign(c), false);
            checks.due("count(0) after sign(" + c + ")", bills.count(0), 0);
        }
        for (int c = 33; c <= 126; c++) {
            checks.due("sign(" + c + ")", bills.sign(c), true);
            checks.due("count(0) after sign(" + c + ")", bills.count(0), c - 32);
        }
    }

    private static void atMost120(Checks checks) {
        PortBills bills = new PortBills();
        for (int i = 0; i < 120; i++) {
            checks.due("sign " + (i + 1), bills.sign("A1;".charAt(i % 3)), true);
        }
        checks.due("sign 121", bills.sign('A'), false);
        checks.due("sign 121, a wrong one", bills.sign(32), false);
        checks.due("count(0)", bills.count(0), 120);
        checks.due("read() of 40 rows", bills.read(), 40);
        checks.due("sign after read()", bills.sign('A'), true);
    }
}
