/** Promise 2: sign. */
public final class SignTest {
    private static final int[] NO_SIGNS = {Integer.MIN_VALUE, -65, -1, 0, 9, 10, 31, 32, 127, 128, 255, 256 + 65, 65536 + 65,
        Integer.MAX_VALUE};

    public static void main(String[] args) {
        Checks checks = new Checks("SignTest");
        allFrom33To126(checks);
        noneBelowOrAbove(checks);
        noSignStandsInTheText(checks);
        theFirstAndTheLastStandInTheText(checks);
        upTo120(checks);
        not121(checks);
        a120thBehindRefusedOnes(checks);
        roomAgainAfterRead(checks);
        checks.end();
    }

    private static void allFrom33To126(Checks checks) {
        PortBills bills = new PortBills();
        for (int c = 33; c <= 126; c++) {
            checks.due("sign(" + c + ")", bills.sign(c), true);
            checks.due("count(0) after sign(" + c + ")", bills.count(0), c - 32);
        }
    }

    private static void noneBelowOrAbove(Checks checks) {
        Untouched fresh = new Untouched(checks, bills -> { });
        Untouched busy = new Untouched(checks, Untouched::busyWithText);
        for (int c : NO_SIGNS) {
            fresh.due("sign(" + c + ")", bills -> bills.sign(c) ? 1 : 0, 0);
            busy.due("sign(" + c + ") behind others", bills -> bills.sign(c) ? 1 : 0, 0);
        }
    }

    private static void noSignStandsInTheText(Checks checks) {
        for (int c : NO_SIGNS) {
            PortBills bills = new PortBills();
            bills.sign('A');
            bills.sign(c);
            bills.sign('1');
            bills.sign(';');
            checks.due("read() with a refused " + c + " in it", bills.read(), 1);
        }
    }

    private static void theFirstAndTheLastStandInTheText(Checks checks) {
        for (int c : new int[] {33, 126}) {
            PortBills bills = new PortBills();
            bills.sign('A');
            bills.sign(c);
            bills.sign('1');
            bills.sign(';');
            checks.due("read() with " + c + " in it", bills.read(), -2);
        }
    }

    private static void upTo120(Checks checks) {
        PortBills bills = new PortBills();
        for (int i = 0; i < 120; i++) {
            checks.due("sign " + (i + 1), bills.sign("A1;".charAt(i % 3)), true);
            checks.due("count(0) after it", bills.count(0), i + 1);
        }
        checks.due("read() of 120 signs", bills.read(), 40);
    }

    private static void not121(Checks checks) {
        Untouched right = new Untouched(checks, bills -> Checks.giveText(bills, "A1;".repeat(40)));
        Untouched tooShort = new Untouched(checks, bills -> Checks.giveText(bills, "A1;".repeat(39) + "B12"));
        for (int c : new int[] {33, 'A', ';', 126, 32, 127}) {
            right.due("sign 121, " + c, bills -> bills.sign(c) ? 1 : 0, 0);
            tooShort.due("sign 121, " + c, bills -> bills.sign(c) ? 1 : 0, 0);
        }
    }

    private static void a120thBehindRefusedOnes(Checks checks) {
        PortBills bills = new PortBills();
        Checks.giveText(bills, "A1;".repeat(39) + "A1");
        checks.due("sign(32) behind 119", bills.sign(32), false);
        checks.due("sign(127) behind 119", bills.sign(127), false);
        checks.due("sign 120", bills.sign(';'), true);
        checks.due("sign 121", bills.sign(';'), false);
        checks.due("read()", bills.read(), 40);
    }

    private static void roomAgainAfterRead(Checks checks) {
        for (String whole : new String[] {"A1;".repeat(40), "x".repeat(120)}) {
            PortBills bills = new PortBills();
            Checks.readText(bills, whole);
            for (int i = 1; i <= 121; i++) {
                checks.due("sign " + i + " after read()", bills.sign('A'), i <= 120);
            }
            checks.due("count(0)", bills.count(0), 120);
        }
    }
}
