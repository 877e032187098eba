/** Promise 4: tariff. */
public final class TariffTest {
    public static void main(String[] args) {
        Checks checks = new Checks("TariffTest");
        PortBills bills = new PortBills();
        Checks.readText(bills, "A12/34-56>78;F999999/9999-9999>999999;C0;");
        int[][] want = {{12, 34, 56, 78}, {-1, -1, -1, -1}, {0, 1, 0, 0}, {-1, -1, -1, -1}, {-1, -1, -1, -1},
            {999999, 9999, 9999, 999999}};
        for (int kind = 0; kind < 6; kind++) {
            for (int what = 0; what < 4; what++) {
                checks.due("tariff(" + kind + ", " + what + ")", bills.tariff(kind, what), want[kind][what]);
            }
        }
        int[][] wrong = {{-1, 0}, {6, 0}, {0, -1}, {0, 4}, {1, 4}, {1, -1}, {Integer.MIN_VALUE, 0},
            {Integer.MAX_VALUE, 0}, {0, Integer.MIN_VALUE}, {0, Integer.MAX_VALUE}};
        for (int[] pair : wrong) {
            checks.dueIllegalArgument("tariff(" + pair[0] + ", " + pair[1] + ")", () -> bills.tariff(pair[0], pair[1]));
        }
        checks.end();
    }
}
