/** Promises 10 and 11: pay and unpaid. */
public final class UnpaidTest {
    private static final long MOST = 1000000000000L;

    public static void main(String[] args) {
        Checks checks = new Checks("UnpaidTest");
        linesLessWhatWasPaid(checks);
        deposits(checks);
        wrongArguments(checks);
        checks.end();
    }

    private static void linesLessWhatWasPaid(Checks checks) {
        PortBills bills = new PortBills();
        bills.event(0, 0, 10);
        bills.event(9, 0, 1);
        checks.due("unpaid(0) before the bill", bills.unpaid(0), 0);
        bills.bill(0);
        bills.bill(9);
        checks.due("unpaid(0)", bills.unpaid(0), 70);
        checks.due("unpaid(9)", bills.unpaid(9), 7);
        checks.due("unpaid(1)", bills.unpaid(1), 0);
        checks.due("pay(0, 30)", bills.pay(0, 30), 40);
        checks.due("pay(0, 40)", bills.pay(0, 40), 0);
        checks.due("unpaid(0)", bills.unpaid(0), 0);
        checks.due("unpaid(9)", bills.unpaid(9), 7);
        bills.correct(0, 75);
        checks.due("unpaid(0) after a correction", bills.unpaid(0), 5);
        bills.dispute(0, true);
        checks.due("unpaid(0) of a disputed line", bills.unpaid(0), -70);
        checks.due("pay(0, 1) of a disputed line", bills.pay(0, 1), -71);
        bills.dispute(0, false);
        checks.due("unpaid(0) no more disputed", bills.unpaid(0), 4);
    }

    private static void deposits(Checks checks) {
        PortBills bills = new PortBills();
        checks.due("pay(5, 1)", bills.pay(5, 1), -1);
        checks.due("pay(5, MOST)", bills.pay(5, MOST), -1 - MOST);
        for (int i = 2; i <= 400; i++) {
            checks.due("pay(5, MOST) " + i, bills.pay(5, MOST), -1 - MOST * i);
        }
        bills.event(5, 0, 1);
        bills.bill(5);
        checks.due("unpaid(5)", bills.unpaid(5), 6 - MOST * 400);
    }

    private static void wrongArguments(Checks checks) {
        PortBills bills = new PortBills();
        for (int call : new int[] {-1, 10, Integer.MIN_VALUE, Integer.MAX_VALUE}) {
            checks.dueIllegalArgument("pay(" + call + ", 1)", () -> bills.pay(call, 1));
            checks.dueIllegalArgument("unpaid(" + call + ")", () -> bills.unpaid(call));
        }
        for (long cents : new long[] {0, -1, MOST + 1, Long.MIN_VALUE, Long.MAX_VALUE}) {
            checks.dueIllegalArgument("pay(0, " + cents + ")", () -> bills.pay(0, cents));
        }
        checks.due("unpaid(0) after wrong payments", bills.unpaid(0), 0);
    }
}
