/** Promises 10 and 11: pay and unpaid. */
public final class UnpaidTest {
    private static final long MOST = 1000000000000L;

    public static void main(String[] args) {
        Checks checks = new Checks("UnpaidTest");
        linesLessWhatWasPaid(checks);
        aDepositIsBelow0(checks);
        aDepositIsUsedUpByALaterBill(checks);
        disputedLinesDoNotCount(checks);
        everyCallByItself(checks);
        theLeastAndTheMostCents(checks);
        centsThatCannotBe(checks);
        payForNoSuchCall(checks);
        unpaidOfNoSuchCall(checks);
        askingChangesNothing(checks);
        allOf200Lines(checks);
        checks.end();
    }

    private static void linesLessWhatWasPaid(Checks checks) {
        PortBills bills = new PortBills();
        bills.event(0, 0, 10);
        bills.event(9, 0, 1);
        checks.due("unpaid(0) before the bill", bills.unpaid(0), 0);
        bills.bill(0);
        bills.bill(9);
        checks.due("unpaid(0)", bills.unpaid(0), 70);
        checks.due("unpaid(9)", bills.unpaid(9), 7);
        checks.due("unpaid(1)", bills.unpaid(1), 0);
        checks.due("pay(0, 30)", bills.pay(0, 30), 40);
        checks.due("pay(0, 39)", bills.pay(0, 39), 1);
        checks.due("pay(0, 1)", bills.pay(0, 1), 0);
        checks.due("unpaid(0)", bills.unpaid(0), 0);
        checks.due("unpaid(9)", bills.unpaid(9), 7);
        bills.correct(0, 75);
        checks.due("unpaid(0) after a correction", bills.unpaid(0), 5);
        bills.correct(0, 60);
        checks.due("unpaid(0) after another", bills.unpaid(0), -10);
    }

    private static void aDepositIsBelow0(Checks checks) {
        PortBills bills = new PortBills();
        checks.due("pay(5, 1)", bills.pay(5, 1), -1);
        checks.due("unpaid(5)", bills.unpaid(5), -1);
        for (int i = 1; i <= 400; i++) {
            checks.due("pay(5, MOST) " + i, bills.pay(5, MOST), -1 - MOST * i);
        }
        checks.due("unpaid(5)", bills.unpaid(5), -1 - MOST * 400);
    }

    private static void aDepositIsUsedUpByALaterBill(Checks checks) {
        PortBills bills = new PortBills();
        bills.pay(5, 7);
        bills.event(5, 0, 1);
        checks.due("unpaid(5) before the bill", bills.unpaid(5), -7);
        bills.bill(5);
        checks.due("unpaid(5)", bills.unpaid(5), 0);
        bills.event(5, 0, 1);
        bills.bill(5);
        checks.due("unpaid(5)", bills.unpaid(5), 7);
    }

    private static void disputedLinesDoNotCount(Checks checks) {
        PortBills bills = new PortBills();
        bills.event(0, 0, 10);
        bills.event(0, 1, 1);
        bills.bill(0);
        bills.correct(0, 75);
        bills.pay(0, 20);
        bills.dispute(0, true);
        checks.due("unpaid(0), a line disputed", bills.unpaid(0), -13);
        checks.due("pay(0, 1), a line disputed", bills.pay(0, 1), -14);
        bills.dispute(1, true);
        checks.due("unpaid(0), all disputed", bills.unpaid(0), -21);
        bills.dispute(0, false);
        checks.due("unpaid(0), the other disputed", bills.unpaid(0), 54);
        bills.dispute(1, false);
        checks.due("unpaid(0), none disputed", bills.unpaid(0), 61);
    }

    private static void everyCallByItself(Checks checks) {
        PortBills bills = new PortBills();
        for (int call = 0; call < 10; call++) {
            bills.event(call, 0, call + 1);
            bills.bill(call);
            checks.due("pay(" + call + ")", bills.pay(call, 10 * call + 1), 7 * (call + 1) - 10 * call - 1);
        }
        for (int call = 0; call < 10; call++) {
            checks.due("unpaid(" + call + ")", bills.unpaid(call), 7 * (call + 1) - 10 * call - 1);
        }
    }

    private static void theLeastAndTheMostCents(Checks checks) {
        for (int call : new int[] {0, 9}) {
            for (long cents : new long[] {1, 2, MOST - 1, MOST}) {
                PortBills bills = new PortBills();
                checks.dueAnswer("pay(" + call + ", " + cents + ")", () -> bills.pay(call, cents), -cents);
                checks.due("unpaid(" + call + ")", bills.unpaid(call), -cents);
            }
        }
    }

    private static void centsThatCannotBe(Checks checks) {
        Untouched busy = new Untouched(checks, Untouched::busyWithText);
        for (long cents : new long[] {0, -1, MOST + 1, -MOST, Long.MIN_VALUE, Long.MAX_VALUE}) {
            busy.dueIllegalArgument("pay(0, " + cents + ")", bills -> bills.pay(0, cents));
            busy.dueIllegalArgument("pay(4, " + cents + ")", bills -> bills.pay(4, cents));
        }
    }

    private static void payForNoSuchCall(Checks checks) {
        Untouched busy = new Untouched(checks, Untouched::busyWithText);
        for (int call : new int[] {-1, 10, 11, Integer.MIN_VALUE, Integer.MAX_VALUE}) {
            busy.dueIllegalArgument("pay(" + call + ", 1)", bills -> bills.pay(call, 1));
            busy.dueIllegalArgument("pay(" + call + ", 0)", bills -> bills.pay(call, 0));
        }
    }

    private static void unpaidOfNoSuchCall(Checks checks) {
        Untouched busy = new Untouched(checks, Untouched::busyWithText);
        for (int call : new int[] {-1, 10, 11, Integer.MIN_VALUE, Integer.MAX_VALUE}) {
            busy.dueIllegalArgument("unpaid(" + call + ")", bills -> bills.unpaid(call));
        }
    }

    private static void askingChangesNothing(Checks checks) {
        // 15 * (11 - 3) / 2 * 2 / 3 = 40, corrected to 77; 3 * 7 = 21; 50 are paid
        Untouched busy = new Untouched(checks, Untouched::busyWithText);
        busy.due("unpaid(0)", bills -> bills.unpaid(0), 48);
        busy.due("unpaid(4)", bills -> bills.unpaid(4), -6);
    }

    private static void allOf200Lines(Checks checks) {
        PortBills bills = new PortBills();
        Checks.fillLines(bills, 3, 200);
        checks.due("unpaid(3)", bills.unpaid(3), 1400);
        checks.due("pay(3, 1)", bills.pay(3, 1), 1399);
    }
}
