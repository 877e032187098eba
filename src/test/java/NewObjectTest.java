/** Promise 1: a new object has no tariffs, events, lines. */
public final class NewObjectTest {
    public static void main(String[] args) {
        Checks checks = new Checks("NewObjectTest");
        checks.due("NONE", PortBills.NONE, -1);
        noCounts(checks);
        noTariffs(checks);
        noEvents(checks);
        noLines(checks);
        noText(checks);
        nothingPaid(checks);
        noDiscounts(checks);
        objectsShareNothing(checks);
        checks.end();
    }

    private static void noCounts(Checks checks) {
        PortBills bills = new PortBills();
        for (int what = 0; what <= 3; what++) {
            checks.due("count(" + what + ")", bills.count(what), 0);
        }
        for (int what = 10; what <= 29; what++) {
            checks.due("count(" + what + ")", bills.count(what), 0);
        }
    }

    private static void noTariffs(Checks checks) {
        PortBills bills = new PortBills();
        for (int kind = 0; kind < 6; kind++) {
            checks.dueTariff(bills, kind, -1, -1, -1, -1);
            bills.event(0, kind, 1);
        }
        bills.bill(0);
        for (int kind = 0; kind < 6; kind++) {
            checks.dueLine(bills, kind, 0, kind, 1, 1, 7, -1, 0, 1, 7);
        }
    }

    private static void noEvents(Checks checks) {
        PortBills bills = new PortBills();
        for (int call = 0; call < 10; call++) {
            checks.due("bill(" + call + ")", bills.bill(call), 0);
        }
        checks.due("count(2) after bills of nothing", bills.count(2), 0);
    }

    private static void noLines(Checks checks) {
        PortBills bills = new PortBills();
        for (int what = 0; what < 9; what++) {
            int asked = what;
            checks.dueThrow("line(0, " + what + ")", IndexOutOfBoundsException.class, () -> bills.line(0, asked));
        }
        checks.dueIllegalArgument("correct(0, 0)", () -> bills.correct(0, 0));
        checks.dueIllegalArgument("dispute(0, true)", () -> bills.dispute(0, true));
        checks.dueIllegalArgument("dispute(0, false)", () -> bills.dispute(0, false));
    }

    private static void noText(Checks checks) {
        PortBills bills = new PortBills();
        checks.due("read()", bills.read(), -1);
    }

    private static void nothingPaid(Checks checks) {
        PortBills bills = new PortBills();
        for (int call = 0; call < 10; call++) {
            checks.due("unpaid(" + call + ")", bills.unpaid(call), 0);
        }
    }

    private static void noDiscounts(Checks checks) {
        PortBills bills = new PortBills();
        for (int call = 0; call < 10; call++) {
            for (int kind = 0; kind < 6; kind++) {
                for (int i = 1; i <= 4; i++) {
                    checks.due("discount " + i + " of " + call + ", " + kind, bills.discount(call, kind, 0, 1), i <= 3);
                }
            }
        }
    }

    private static void objectsShareNothing(Checks checks) {
        Untouched fresh = new Untouched(checks, bills -> { });
        fresh.due("all of it on another object", bills -> {
            PortBills used = new PortBills();
            Untouched.busyWithText(used);
            return 0;
        }, 0);
        PortBills used = new PortBills();
        PortBills beside = new PortBills();
        Untouched.busyWithText(used);
        checks.due("count(0) beside a used object", beside.count(0), 0);
        checks.due("count(1) beside a used object", beside.count(1), 0);
        checks.due("count(2) beside a used object", beside.count(2), 0);
        checks.due("count(3) beside a used object", beside.count(3), 0);
        checks.due("unpaid(4) beside a used object", beside.unpaid(4), 0);
        beside.event(9, 5, 4);
        beside.bill(9);
        checks.due("line(0, 4) beside a used object", beside.line(0, 4), 28);
    }
}
