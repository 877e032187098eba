/** Promise 1: a new object has no tariffs, events, lines. */
public final class NewObjectTest {
    public static void main(String[] args) {
        Checks checks = new Checks("NewObjectTest");
        PortBills bills = new PortBills();
        checks.due("NONE", PortBills.NONE, -1);
        for (int what = 0; what <= 3; what++) {
            checks.due("count(" + what + ")", bills.count(what), 0);
        }
        for (int what = 10; what <= 29; what++) {
            checks.due("count(" + what + ")", bills.count(what), 0);
        }
        for (int kind = 0; kind < 6; kind++) {
            for (int what = 0; what < 4; what++) {
                checks.due("tariff(" + kind + ", " + what + ")", bills.tariff(kind, what), -1);
            }
        }
        for (int call = 0; call < 10; call++) {
            checks.due("unpaid(" + call + ")", bills.unpaid(call), 0);
            checks.due("bill(" + call + ")", bills.bill(call), 0);
        }
        checks.dueThrow("line(0, 0)", IndexOutOfBoundsException.class, () -> bills.line(0, 0));
        objectsShareNothing(checks);
        checks.end();
    }

    private static void objectsShareNothing(Checks checks) {
        PortBills used = new PortBills();
        Checks.readText(used, "A9/3-1>5;");
        used.event(0, 0, 5);
        used.discount(0, 0, 1, 1);
        used.bill(0);
        used.pay(0, 3);
        used.sign('A');
        PortBills fresh = new PortBills();
        checks.due("count(0) beside a used object", fresh.count(0), 0);
        checks.due("count(2) beside a used object", fresh.count(2), 0);
        checks.due("count(3) beside a used object", fresh.count(3), 0);
        checks.due("unpaid(0) beside a used object", fresh.unpaid(0), 0);
        fresh.event(0, 0, 5);
        fresh.bill(0);
        checks.due("line(0, 4) beside a used object", fresh.line(0, 4), 35);
    }
}
