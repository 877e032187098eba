/** Promise 6: discount. */
public final class DiscountTest {
    public static void main(String[] args) {
        Checks checks = new Checks("DiscountTest");
        wrongArguments(checks);
        edges(checks);
        threeForACallAndKind(checks);
        oneBehindTheOtherRoundedOnce(checks);
        onlyItsCallAndKind(checks);
        discountsStay(checks);
        checks.end();
    }

    private static long centsOf(PortBills bills, int call, int kind, int amount) {
        bills.event(call, kind, amount);
        bills.bill(call);
        return bills.line(bills.count(2) - 1, 4);
    }

    private static void wrongArguments(Checks checks) {
        int[][] wrong = {{-1, 0, 1, 2}, {10, 0, 1, 2}, {0, -1, 1, 2}, {0, 6, 1, 2}, {0, 0, 0, 0}, {0, 0, -1, 2},
            {0, 0, 3, 2}, {0, 0, 1, 101}, {0, 0, 0, -1}, {0, 0, -2, -1}, {Integer.MAX_VALUE, 0, 1, 2},
            {Integer.MIN_VALUE, 0, 1, 2}, {0, Integer.MAX_VALUE, 1, 2}, {0, Integer.MIN_VALUE, 1, 2},
            {0, 0, Integer.MIN_VALUE, 2}, {0, 0, 1, Integer.MAX_VALUE}, {0, 0, 1, Integer.MIN_VALUE}};
        PortBills bills = new PortBills();
        for (int[] a : wrong) {
            checks.due("discount(" + a[0] + ", " + a[1] + ", " + a[2] + ", " + a[3] + ")",
                bills.discount(a[0], a[1], a[2], a[3]), false);
        }
        checks.due("cents after wrong discounts", centsOf(bills, 0, 0, 10), 70);
        for (int i = 0; i < 3; i++) {
            checks.due("discount after wrong ones", bills.discount(0, 0, 1, 2), true);
        }
    }

    private static void edges(Checks checks) {
        int[][] right = {{0, 1, 70}, {1, 1, 0}, {0, 100, 70}, {100, 100, 0}, {1, 100, 69}, {99, 100, 1}, {1, 2, 35}};
        for (int[] a : right) {
            PortBills bills = new PortBills();
            checks.due("discount(9, 5, " + a[0] + ", " + a[1] + ")", bills.discount(9, 5, a[0], a[1]), true);
            checks.due("cents less " + a[0] + " / " + a[1], centsOf(bills, 9, 5, 10), a[2]);
        }
    }

    private static void threeForACallAndKind(Checks checks) {
        PortBills bills = new PortBills();
        for (int i = 0; i < 3; i++) {
            checks.due("discount " + (i + 1), bills.discount(2, 3, 0, 1), true);
        }
        checks.due("discount 4", bills.discount(2, 3, 1, 1), false);
        checks.due("discount of another kind", bills.discount(2, 4, 0, 1), true);
        checks.due("discount of another call", bills.discount(3, 3, 0, 1), true);
        checks.due("cents after the one refused", centsOf(bills, 2, 3, 1), 7);
    }

    private static void oneBehindTheOtherRoundedOnce(Checks checks) {
        PortBills bills = new PortBills();
        bills.discount(0, 0, 1, 2);
        bills.discount(0, 0, 1, 2);
        bills.discount(0, 0, 1, 2);
        // 84 / 8 = 10.5 goes up.
        checks.due("84 less three halves", centsOf(bills, 0, 0, 12), 11);
        // 35 / 8 = 4.375 is 4; rounded after each discount it would be 18, 9, 5.
        checks.due("35 less three halves", centsOf(bills, 0, 0, 5), 4);
        PortBills thirds = new PortBills();
        thirds.discount(0, 0, 1, 3);
        thirds.discount(0, 0, 1, 2);
        // 7 * 2/3 * 1/2 = 2.33 is 2; rounded after each discount it would be 5, 3.
        checks.due("7 less a third and a half", centsOf(thirds, 0, 0, 1), 2);
    }

    private static void onlyItsCallAndKind(Checks checks) {
        PortBills bills = new PortBills();
        bills.discount(1, 1, 1, 1);
        checks.due("cents of another call", centsOf(bills, 0, 1, 1), 7);
        checks.due("cents of another kind", centsOf(bills, 1, 0, 1), 7);
        checks.due("cents of the call and kind", centsOf(bills, 1, 1, 1), 0);
    }

    private static void discountsStay(Checks checks) {
        PortBills bills = new PortBills();
        checks.due("cents before", centsOf(bills, 0, 0, 2), 14);
        bills.discount(0, 0, 1, 2);
        checks.due("cents of the line billed before", bills.line(0, 4), 14);
        checks.due("cents of the first bill", centsOf(bills, 0, 0, 2), 7);
        checks.due("cents of the second bill", centsOf(bills, 0, 0, 2), 7);
    }
}
