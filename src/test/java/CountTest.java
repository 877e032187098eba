import java.util.Arrays;

/** Promise 14: count. */
public final class CountTest {
    public static void main(String[] args) {
        Checks checks = new Checks("CountTest");
        everyWhat(checks);
        noneForAnotherWhatOrCall(checks);
        everyCallHasItsOwn(checks);
        everyKindHasItsBit(checks);
        atTheLimits(checks);
        askingChangesNothing(checks);
        checks.end();
    }

    private static void everyWhat(Checks checks) {
        PortBills bills = new PortBills();
        Checks.readText(bills, "A1;F1;C1;");
        Checks.giveText(bills, "A1");
        bills.event(0, 0, 1);
        bills.event(0, 1, 1);
        bills.event(9, 5, 1);
        bills.bill(0);
        bills.bill(9);
        bills.correct(0, 99);
        bills.event(9, 5, 1);
        bills.event(9, 5, 1);
        bills.event(4, 5, 1);
        int[] want = new int[31];
        Arrays.fill(want, -1);
        Arrays.fill(want, 10, 30, 0);
        want[0] = 2;
        want[1] = 3;
        want[2] = 4;
        want[3] = 0b100101;
        want[10] = 3;
        want[19] = 1;
        want[24] = 1;
        want[29] = 2;
        for (int what = 0; what < want.length; what++) {
            checks.due("count(" + what + ")", bills.count(what), want[what]);
        }
    }

    private static void noneForAnotherWhatOrCall(Checks checks) {
        Untouched busy = new Untouched(checks, Untouched::busyWithText);
        for (int what : new int[] {-1, 4, 5, 6, 7, 8, 9, 30, 31, 39, 40, 100, -10, -20, Integer.MIN_VALUE,
            Integer.MIN_VALUE + 9, Integer.MIN_VALUE + 15, Integer.MIN_VALUE + 20, Integer.MAX_VALUE, Integer.MAX_VALUE - 10}) {
            busy.due("count(" + what + ")", bills -> bills.count(what), -1);
        }
    }

    private static void everyCallHasItsOwn(Checks checks) {
        PortBills bills = new PortBills();
        for (int call = 0; call < 10; call++) {
            for (int i = 0; i <= call; i++) {
                bills.event(call, i % 6, 1);
            }
        }
        for (int call = 0; call < 10; call++) {
            checks.due("count(" + (20 + call) + ")", bills.count(20 + call), call + 1);
            checks.due("count(" + (10 + call) + ")", bills.count(10 + call), 0);
        }
        int waiting = 55;
        checks.due("count(1)", bills.count(1), waiting);
        for (int call = 0; call < 10; call++) {
            bills.bill(call);
            waiting -= call + 1;
            checks.due("count(" + (20 + call) + ") after its bill", bills.count(20 + call), 0);
            checks.due("count(" + (10 + call) + ") after its bill", bills.count(10 + call), Math.min(6, call + 1));
            checks.due("count(1) after the bill of " + call, bills.count(1), waiting);
        }
    }

    private static void everyKindHasItsBit(Checks checks) {
        PortBills bills = new PortBills();
        for (int kind = 0; kind < 6; kind++) {
            Checks.readText(bills, (char) ('A' + kind) + "0;");
            checks.due("count(3) with tariffs up to " + kind, bills.count(3), (1 << kind + 1) - 1);
        }
        Checks.readText(bills, "A1;");
        checks.due("count(3) after one more for A", bills.count(3), 63);
        PortBills last = new PortBills();
        Checks.readText(last, "F0;");
        checks.due("count(3) with F alone", last.count(3), 32);
        Checks.readText(last, "A1;B");
        checks.due("count(3) after a wrong text", last.count(3), 32);
    }

    private static void atTheLimits(Checks checks) {
        PortBills bills = new PortBills();
        Checks.fillLines(bills, 7, 200);
        checks.due("count(2)", bills.count(2), 200);
        checks.due("count(17)", bills.count(17), 200);
        for (int i = 0; i < 100; i++) {
            bills.event(7, 0, 1);
        }
        checks.due("count(1)", bills.count(1), 100);
        checks.due("count(27)", bills.count(27), 100);
        Checks.giveText(bills, "A".repeat(120));
        checks.due("count(0)", bills.count(0), 120);
    }

    private static void askingChangesNothing(Checks checks) {
        Untouched busy = new Untouched(checks, Untouched::busyWithText);
        busy.due("count(0)", bills -> bills.count(0), 8);
        busy.due("count(1)", bills -> bills.count(1), 4);
        busy.due("count(2)", bills -> bills.count(2), 6);
        busy.due("count(3)", bills -> bills.count(3), 5);
        busy.due("count(10)", bills -> bills.count(10), 3);
        busy.due("count(29)", bills -> bills.count(29), 1);
    }
}
