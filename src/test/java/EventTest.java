/** Promise 5: event, with KINDS, UNIT and UNITS. */
public final class EventTest {
    public static void main(String[] args) {
        Checks checks = new Checks("EventTest");
        begunUnitsCountWhole(checks);
        eachEventIsRoundedByItself(checks);
        wrongArguments(checks);
        atMost100Wait(checks);
        checks.end();
    }

    private static void begunUnitsCountWhole(Checks checks) {
        int[] unit = {1, 1, 60, 1440, 1000, 1};
        for (int kind = 0; kind < 6; kind++) {
            for (int amount : new int[] {1, 2, 59, 60, 61, 999, 1000, 1001, 1439, 1440, 1441, 2000, 2880, 49999, 50000}) {
                int want = (int) Math.ceil((double) amount / unit[kind]);
                checks.due("event(0, " + kind + ", " + amount + ")", new PortBills().event(0, kind, amount), want);
            }
        }
    }

    private static void eachEventIsRoundedByItself(Checks checks) {
        PortBills bills = new PortBills();
        bills.event(4, 3, 1);
        bills.event(4, 3, 1);
        bills.event(4, 3, 1441);
        bills.bill(4);
        checks.due("line(0, 2)", bills.line(0, 2), 4);
    }

    private static void wrongArguments(Checks checks) {
        int[][] wrong = {{-1, 0, 1}, {10, 0, 1}, {0, -1, 1}, {0, 6, 1}, {0, 0, 0}, {0, 0, -1}, {0, 0, 50001},
            {Integer.MIN_VALUE, 0, 1}, {Integer.MAX_VALUE, 0, 1}, {0, Integer.MIN_VALUE, 1}, {0, Integer.MAX_VALUE, 1},
            {0, 0, Integer.MIN_VALUE}, {0, 0, Integer.MAX_VALUE}, {-1, -1, -1}};
        PortBills bills = new PortBills();
        for (int[] a : wrong) {
            checks.dueIllegalArgument("event(" + a[0] + ", " + a[1] + ", " + a[2] + ")", () -> bills.event(a[0], a[1], a[2]));
        }
        checks.due("count(1) after wrong events", bills.count(1), 0);
    }

    private static void atMost100Wait(Checks checks) {
        PortBills bills = new PortBills();
        for (int i = 0; i < 100; i++) {
            checks.due("event " + (i + 1), bills.event(i % 10, i % 6, 1), 1);
        }
        checks.dueIllegalState("event 101", () -> bills.event(0, 0, 1));
        checks.dueIllegalArgument("event 101, of a wrong call", () -> bills.event(10, 0, 1));
        checks.dueIllegalArgument("event 101, of a wrong kind", () -> bills.event(0, 6, 1));
        checks.dueIllegalArgument("event 101, of a wrong amount", () -> bills.event(0, 0, 0));
        checks.due("count(1)", bills.count(1), 100);
        checks.due("count(20)", bills.count(20), 10);
        bills.bill(3);
        checks.due("count(1) after a bill", bills.count(1), 90);
        checks.due("event after a bill", bills.event(0, 0, 9), 9);
    }
}
