/** Promise 6: discount. */
public final class DiscountTest {
    public static void main(String[] args) {
        Checks checks = new Checks("DiscountTest");
        everyUpAndDown(checks);
        farOutUpAndDown(checks);
        noSuchCallOrKind(checks);
        everyCallAndKind(checks);
        threeButNotFour(checks);
        refusedOnesAreNotOfTheThree(checks);
        theLeastAndTheMostOfIt(checks);
        oneBehindTheOtherRoundedOnce(checks);
        onlyItsCallAndKind(checks);
        discountsStay(checks);
        checks.end();
    }

    private static long centsOf(PortBills bills, int call, int kind, int amount) {
        bills.event(call, kind, amount);
        bills.bill(call);
        return bills.line(bills.count(2) - 1, 4);
    }

    private static String named(int call, int kind, int up, int down) {
        return "discount(" + call + ", " + kind + ", " + up + ", " + down + ")";
    }

    /** 7 cents for each of 50000 units, less each fraction there is; half a cent and more up. */
    private static void everyUpAndDown(Checks checks) {
        for (int down = -1; down <= 102; down++) {
            for (int up = -1; up <= Math.max(1, down + 1); up++) {
                boolean right = down >= 1 && down <= 100 && up >= 0 && up <= down;
                PortBills bills = new PortBills();
                checks.due(named(9, 5, up, down), bills.discount(9, 5, up, down), right);
                long want = right ? (2 * 350000L * (down - up) + down) / (2 * down) : 350000;
                checks.due("cents after " + named(9, 5, up, down), centsOf(bills, 9, 5, 50000), want);
            }
        }
    }

    private static void farOutUpAndDown(Checks checks) {
        int[][] wrong = {{0, 0}, {1, 0}, {0, -1}, {-1, -1}, {-2, -1}, {0, 101}, {1, 101}, {101, 101}, {-1, 1}, {2, 1}, {-1, 100},
            {101, 100}, {Integer.MIN_VALUE, 2}, {Integer.MAX_VALUE, 2}, {0, Integer.MIN_VALUE}, {0, Integer.MAX_VALUE},
            {Integer.MIN_VALUE, Integer.MIN_VALUE}, {Integer.MAX_VALUE, Integer.MAX_VALUE}};
        Untouched busy = new Untouched(checks, Untouched::busyWithText);
        for (int[] a : wrong) {
            busy.due(named(0, 0, a[0], a[1]), bills -> bills.discount(0, 0, a[0], a[1]) ? 1 : 0, 0);
        }
    }

    private static void noSuchCallOrKind(Checks checks) {
        Untouched busy = new Untouched(checks, Untouched::busyWithText);
        for (int call : new int[] {-1, 10, 11, Integer.MIN_VALUE, Integer.MAX_VALUE}) {
            busy.due(named(call, 0, 1, 2), bills -> bills.discount(call, 0, 1, 2) ? 1 : 0, 0);
        }
        for (int kind : new int[] {-1, 6, 7, Integer.MIN_VALUE, Integer.MAX_VALUE}) {
            busy.due(named(0, kind, 1, 2), bills -> bills.discount(0, kind, 1, 2) ? 1 : 0, 0);
        }
        busy.due(named(-1, -1, -1, -1), bills -> bills.discount(-1, -1, -1, -1) ? 1 : 0, 0);
    }

    private static void everyCallAndKind(Checks checks) {
        PortBills bills = new PortBills();
        for (int call = 0; call < 10; call++) {
            for (int kind = 0; kind < 6; kind++) {
                checks.due(named(call, kind, kind, call + 6), bills.discount(call, kind, kind, call + 6), true);
            }
        }
        for (int call = 0; call < 10; call++) {
            for (int kind = 0; kind < 6; kind++) {
                long down = call + 6;
                long want = (14 * (down - kind) + down) / (2 * down);
                checks.due("cents of " + call + ", " + kind, centsOf(bills, call, kind, 1), want);
            }
        }
    }

    private static void threeButNotFour(Checks checks) {
        PortBills bills = new PortBills();
        for (int i = 1; i <= 3; i++) {
            checks.due("discount " + i, bills.discount(2, 3, 1, 4), true);
        }
        checks.due("discount 4", bills.discount(2, 3, 1, 4), false);
        checks.due("discount of another kind", bills.discount(2, 4, 0, 1), true);
        checks.due("discount of another call", bills.discount(3, 3, 0, 1), true);
        Untouched three = new Untouched(checks, b -> {
            Untouched.busyWithText(b);
            b.discount(9, 5, 3, 4);
        });
        three.due("discount 4, of all", b -> b.discount(9, 5, 1, 1) ? 1 : 0, 0);
        three.due("discount 4, of nothing", b -> b.discount(9, 5, 0, 100) ? 1 : 0, 0);
        three.due("discount 4, a wrong one", b -> b.discount(9, 5, 2, 1) ? 1 : 0, 0);
        // 7 * 50000 * 5 / 7 / 2 / 4
        PortBills billed = new PortBills();
        billed.discount(9, 5, 2, 7);
        billed.discount(9, 5, 1, 2);
        billed.discount(9, 5, 3, 4);
        billed.discount(9, 5, 1, 1);
        checks.due("cents after the one refused", centsOf(billed, 9, 5, 50000), 31250);
        checks.due("discount 4 after a bill", billed.discount(9, 5, 1, 2), false);
    }

    private static void refusedOnesAreNotOfTheThree(Checks checks) {
        PortBills bills = new PortBills();
        for (int i = 1; i <= 3; i++) {
            checks.due("a wrong up", bills.discount(0, 0, -1, 2), false);
            checks.due("an up above down", bills.discount(0, 0, 3, 2), false);
            checks.due("a down of 0", bills.discount(0, 0, 0, 0), false);
            checks.due("a down of 101", bills.discount(0, 0, 1, 101), false);
            checks.due("discount " + i + " after wrong ones", bills.discount(0, 0, 1, 2), true);
        }
        checks.due("discount 4", bills.discount(0, 0, 1, 2), false);
        checks.due("cents less three halves", centsOf(bills, 0, 0, 8), 7);
    }

    private static void theLeastAndTheMostOfIt(Checks checks) {
        int[][] right = {{0, 1, 70}, {1, 1, 0}, {0, 100, 70}, {100, 100, 0}, {1, 100, 69}, {99, 100, 1}, {1, 2, 35}};
        for (int[] a : right) {
            PortBills bills = new PortBills();
            checks.due(named(0, 0, a[0], a[1]), bills.discount(0, 0, a[0], a[1]), true);
            checks.due("cents less " + a[0] + " / " + a[1], centsOf(bills, 0, 0, 10), a[2]);
        }
        PortBills all = new PortBills();
        Checks.readText(all, "A9-1>3;");
        all.discount(0, 0, 100, 100);
        checks.due("LEAST cents of a discount of all", centsOf(all, 0, 0, 2), 3);
        checks.due("cents of free units less a discount of all", centsOf(all, 0, 0, 1), 0);
    }

    private static void oneBehindTheOtherRoundedOnce(Checks checks) {
        PortBills bills = new PortBills();
        bills.discount(0, 0, 1, 2);
        bills.discount(0, 0, 1, 2);
        bills.discount(0, 0, 1, 2);
        // 84 / 8 = 10.5 goes up.
        checks.due("84 less three halves", centsOf(bills, 0, 0, 12), 11);
        // 35 / 8 = 4.375 is 4; rounded after each discount it would be 18, 9, 5.
        checks.due("35 less three halves", centsOf(bills, 0, 0, 5), 4);
        PortBills thirds = new PortBills();
        thirds.discount(0, 0, 1, 3);
        thirds.discount(0, 0, 1, 2);
        // 7 * 2/3 * 1/2 = 2.33 is 2; rounded after each discount it would be 5, 3.
        checks.due("7 less a third and a half", centsOf(thirds, 0, 0, 1), 2);
    }

    private static void onlyItsCallAndKind(Checks checks) {
        PortBills bills = new PortBills();
        bills.discount(1, 1, 1, 1);
        checks.due("cents of another call", centsOf(bills, 0, 1, 1), 7);
        checks.due("cents of another kind", centsOf(bills, 1, 0, 1), 7);
        checks.due("cents of the call and kind", centsOf(bills, 1, 1, 1), 0);
    }

    private static void discountsStay(Checks checks) {
        PortBills bills = new PortBills();
        checks.due("cents before", centsOf(bills, 0, 0, 2), 14);
        bills.discount(0, 0, 1, 2);
        checks.due("cents of the line billed before", bills.line(0, 4), 14);
        checks.due("cents of the first bill", centsOf(bills, 0, 0, 2), 7);
        checks.due("cents of the second bill", centsOf(bills, 0, 0, 2), 7);
        // It counts from when it was told, also for events that wait.
        bills.event(0, 1, 2);
        bills.discount(0, 1, 1, 2);
        bills.bill(0);
        checks.due("cents of an event from before", bills.line(3, 4), 7);
    }
}
