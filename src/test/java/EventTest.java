/** Promise 5: event, with KINDS, UNIT, EVENTS and UNITS. */
public final class EventTest {
    private static final int[] UNIT = {1, 1, 60, 1440, 1000, 1};

    public static void main(String[] args) {
        Checks checks = new Checks("EventTest");
        begunUnitsCountWhole(checks);
        eachEventIsRoundedByItself(checks);
        everyCallAndKind(checks);
        amountsThatCanBe(checks);
        amountsThatCannotBe(checks);
        noSuchCallOrKind(checks);
        theHundredthWaitsTheNextDoesNot(checks);
        hundredOfOneCall(checks);
        aWrongArgumentIsToldFirst(checks);
        refusedEventsDoNotWait(checks);
        aBillMakesRoom(checks);
        checks.end();
    }

    private static void begunUnitsCountWhole(Checks checks) {
        for (int kind = 0; kind < 6; kind++) {
            int unit = UNIT[kind];
            for (int whole = 1; whole * unit <= 50000 && whole <= 60; whole++) {
                int end = whole * unit;
                checks.due("event(0, " + kind + ", " + end + ")", new PortBills().event(0, kind, end), whole);
                checks.due("event(0, " + kind + ", " + (end - unit + 1) + ")",
                    new PortBills().event(0, kind, end - unit + 1), whole);
                if (end < 50000) {
                    checks.due("event(0, " + kind + ", " + (end + 1) + ")", new PortBills().event(0, kind, end + 1), whole + 1);
                }
            }
        }
    }

    private static void eachEventIsRoundedByItself(Checks checks) {
        PortBills bills = new PortBills();
        checks.due("event(4, 3, 1)", bills.event(4, 3, 1), 1);
        checks.due("event(4, 3, 1) again", bills.event(4, 3, 1), 1);
        checks.due("event(4, 3, 1441)", bills.event(4, 3, 1441), 2);
        bills.bill(4);
        checks.due("line(0, 2)", bills.line(0, 2), 4);
    }

    private static void everyCallAndKind(Checks checks) {
        PortBills bills = new PortBills();
        for (int call = 0; call < 10; call++) {
            for (int kind = 0; kind < 6; kind++) {
                checks.due("event(" + call + ", " + kind + ", 1)", bills.event(call, kind, 1), 1);
            }
            checks.due("events that wait of " + call, bills.count(20 + call), 6);
        }
        checks.due("count(1)", bills.count(1), 60);
    }

    private static void amountsThatCanBe(Checks checks) {
        int[] unitsOf50000 = {50000, 50000, 834, 35, 50, 50000};
        for (int kind = 0; kind < 6; kind++) {
            PortBills bills = new PortBills();
            checks.due("event(9, " + kind + ", 1)", bills.event(9, kind, 1), 1);
            checks.due("event(9, " + kind + ", 50000)", bills.event(9, kind, 50000), unitsOf50000[kind]);
            checks.due("count(29)", bills.count(29), 2);
            bills.bill(9);
            checks.due("line(0, 2) of kind " + kind, bills.line(0, 2), unitsOf50000[kind] + 1);
        }
    }

    private static void amountsThatCannotBe(Checks checks) {
        Untouched busy = new Untouched(checks, Untouched::busyWithText);
        for (int amount : new int[] {0, -1, 50001, -50000, Integer.MIN_VALUE, Integer.MAX_VALUE}) {
            for (int kind = 0; kind < 6; kind++) {
                int of = kind;
                busy.dueIllegalArgument("event(0, " + kind + ", " + amount + ")", bills -> bills.event(0, of, amount));
            }
        }
    }

    private static void noSuchCallOrKind(Checks checks) {
        Untouched busy = new Untouched(checks, Untouched::busyWithText);
        for (int call : new int[] {-1, 10, 11, Integer.MIN_VALUE, Integer.MAX_VALUE}) {
            busy.dueIllegalArgument("event(" + call + ", 0, 1)", bills -> bills.event(call, 0, 1));
        }
        for (int kind : new int[] {-1, 6, 7, Integer.MIN_VALUE, Integer.MAX_VALUE}) {
            busy.dueIllegalArgument("event(0, " + kind + ", 1)", bills -> bills.event(0, kind, 1));
        }
        busy.dueIllegalArgument("event(-1, -1, -1)", bills -> bills.event(-1, -1, -1));
    }

    private static void hundredSpread(PortBills bills) {
        Checks.readText(bills, "A3/2-2;");
        for (int i = 0; i < 100; i++) {
            bills.event(i % 10, i % 6, 1 + i);
        }
    }

    private static void theHundredthWaitsTheNextDoesNot(Checks checks) {
        PortBills bills = new PortBills();
        for (int i = 1; i <= 100; i++) {
            checks.due("event " + i, bills.event(i % 10, i % 6, 1), 1);
            checks.due("count(1) after it", bills.count(1), i);
        }
        Untouched full = new Untouched(checks, EventTest::hundredSpread);
        for (int call = 0; call < 10; call++) {
            int of = call;
            full.dueIllegalState("event 101, of call " + call, b -> b.event(of, 5, 1));
            full.dueIllegalState("event 101, of call " + call, b -> b.event(of, 0, 50000));
        }
    }

    private static void hundredOfOneCall(Checks checks) {
        Untouched full = new Untouched(checks, bills -> {
            for (int i = 0; i < 100; i++) {
                bills.event(7, 2, 61);
            }
        });
        full.dueIllegalState("event 101 of one call", bills -> bills.event(7, 2, 61));
        full.dueIllegalState("event 101, the first of its call", bills -> bills.event(0, 2, 61));
        PortBills bills = new PortBills();
        for (int i = 1; i <= 100; i++) {
            checks.due("event " + i + " of one call", bills.event(7, 2, 61), 2);
        }
        checks.due("count(27)", bills.count(27), 100);
        checks.due("bill(7)", bills.bill(7), 1);
        checks.due("line(0, 2)", bills.line(0, 2), 200);
    }

    private static void aWrongArgumentIsToldFirst(Checks checks) {
        Untouched full = new Untouched(checks, EventTest::hundredSpread);
        full.dueIllegalArgument("event 101, of call 10", bills -> bills.event(10, 0, 1));
        full.dueIllegalArgument("event 101, of call -1", bills -> bills.event(-1, 0, 1));
        full.dueIllegalArgument("event 101, of kind 6", bills -> bills.event(0, 6, 1));
        full.dueIllegalArgument("event 101, of kind -1", bills -> bills.event(0, -1, 1));
        full.dueIllegalArgument("event 101, of amount 0", bills -> bills.event(0, 0, 0));
        full.dueIllegalArgument("event 101, of amount 50001", bills -> bills.event(0, 0, 50001));
    }

    private static void refusedEventsDoNotWait(Checks checks) {
        PortBills bills = new PortBills();
        for (int i = 1; i <= 100; i++) {
            checks.dueIllegalArgument("event(3, 0, 0)", () -> bills.event(3, 0, 0));
            int nth = i;
            checks.dueAnswer("event " + i, () -> bills.event(3, 0, nth), nth);
        }
        checks.dueIllegalState("event 101", () -> bills.event(3, 0, 1));
        bills.bill(3);
        checks.due("line(0, 2)", bills.line(0, 2), 5050);
    }

    private static void aBillMakesRoom(Checks checks) {
        PortBills bills = new PortBills();
        for (int i = 0; i < 97; i++) {
            bills.event(1, 0, 1);
        }
        for (int i = 0; i < 3; i++) {
            bills.event(2, i, 1);
        }
        bills.bill(3);
        checks.dueIllegalState("event after a bill of no events", () -> bills.event(3, 0, 1));
        bills.bill(2);
        checks.due("count(1) after a bill of 3 events", bills.count(1), 97);
        for (int i = 1; i <= 3; i++) {
            int amount = i;
            checks.dueAnswer("event " + i + " after it", () -> bills.event(3, 0, amount), amount);
        }
        checks.dueIllegalState("event 4 after it", () -> bills.event(3, 0, 1));
        bills.bill(1);
        checks.due("count(1)", bills.count(1), 3);
        for (int i = 1; i <= 97; i++) {
            checks.dueAnswer("event " + i + " after a bill of 97", () -> bills.event(4, 5, 1), 1);
        }
        checks.dueIllegalState("event 98 after it", () -> bills.event(4, 5, 1));
    }
}
