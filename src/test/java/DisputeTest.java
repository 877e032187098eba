/** Promise 9: dispute. */
public final class DisputeTest {
    public static void main(String[] args) {
        Checks checks = new Checks("DisputeTest");
        onAndOff(checks);
        everyLineByItself(checks);
        aLineThatIsSoAlready(checks);
        aLineThatIsACorrection(checks);
        correctionsGoAlong(checks);
        aCorrectionOfADisputedLine(checks);
        noSuchLine(checks);
        theLastOf200(checks);
        checks.end();
    }

    private static void makeThreeLines(PortBills bills) {
        for (int kind = 0; kind < 3; kind++) {
            bills.event(6, kind, 1);
        }
        bills.bill(6);
    }

    private static PortBills threeLines() {
        PortBills bills = new PortBills();
        makeThreeLines(bills);
        return bills;
    }

    private static void onAndOff(Checks checks) {
        PortBills bills = threeLines();
        checks.due("dispute(1, true)", bills.dispute(1, true), 1);
        checks.dueLine(bills, 1, 6, 1, 1, 1, 7, -1, 1, 1, 7);
        checks.due("unpaid(6)", bills.unpaid(6), 14);
        checks.due("dispute(1, true) again", bills.dispute(1, true), 0);
        checks.due("dispute(1, false)", bills.dispute(1, false), 1);
        checks.dueLine(bills, 1, 6, 1, 1, 1, 7, -1, 0, 1, 7);
        checks.due("unpaid(6) after it", bills.unpaid(6), 21);
        checks.due("dispute(1, false) again", bills.dispute(1, false), 0);
        checks.due("dispute(1, true) once more", bills.dispute(1, true), 1);
        checks.due("unpaid(6) once more", bills.unpaid(6), 14);
    }

    private static void everyLineByItself(Checks checks) {
        for (int line = 0; line < 3; line++) {
            PortBills bills = threeLines();
            checks.due("dispute(" + line + ", true)", bills.dispute(line, true), 1);
            for (int i = 0; i < 3; i++) {
                checks.due("line(" + i + ", 6)", bills.line(i, 6), i == line ? 1 : 0);
            }
        }
    }

    private static void aLineThatIsSoAlready(Checks checks) {
        Untouched busy = new Untouched(checks, bills -> {
            makeThreeLines(bills);
            bills.correct(1, 100);
            bills.dispute(1, true);
            bills.dispute(2, true);
            bills.dispute(2, false);
        });
        busy.due("dispute(0, false), never disputed", bills -> bills.dispute(0, false), 0);
        busy.due("dispute(1, true), disputed", bills -> bills.dispute(1, true), 0);
        busy.due("dispute(2, false), no more disputed", bills -> bills.dispute(2, false), 0);
    }

    private static void aLineThatIsACorrection(Checks checks) {
        Untouched open = new Untouched(checks, bills -> {
            makeThreeLines(bills);
            bills.correct(1, 100);
        });
        open.due("dispute(3, true), a correction", bills -> bills.dispute(3, true), 0);
        open.due("dispute(3, false), a correction", bills -> bills.dispute(3, false), 0);
        Untouched disputed = new Untouched(checks, bills -> {
            makeThreeLines(bills);
            bills.correct(1, 100);
            bills.dispute(1, true);
        });
        disputed.due("dispute(3, true), of a disputed line", bills -> bills.dispute(3, true), 0);
        disputed.due("dispute(3, false), of a disputed line", bills -> bills.dispute(3, false), 0);
    }

    private static void correctionsGoAlong(Checks checks) {
        PortBills bills = threeLines();
        bills.correct(1, 100);
        bills.correct(2, 200);
        bills.correct(1, 60);
        bills.correct(0, 9);
        checks.due("dispute(1, true)", bills.dispute(1, true), 1);
        dueDisputed(checks, bills, 0, 1, 0, 1, 0, 1, 0);
        checks.due("unpaid(6)", bills.unpaid(6), 209);
        checks.due("line(1, 8) of a disputed line", bills.line(1, 8), 60);
        checks.due("dispute(0, true)", bills.dispute(0, true), 1);
        dueDisputed(checks, bills, 1, 1, 0, 1, 0, 1, 1);
        checks.due("dispute(1, false)", bills.dispute(1, false), 1);
        dueDisputed(checks, bills, 1, 0, 0, 0, 0, 0, 1);
        checks.due("unpaid(6)", bills.unpaid(6), 260);
    }

    private static void aCorrectionOfADisputedLine(Checks checks) {
        PortBills bills = threeLines();
        bills.dispute(1, true);
        checks.due("correct(1, 50), disputed", bills.correct(1, 50), 3);
        dueDisputed(checks, bills, 0, 1, 0, 1);
        checks.due("line(1, 8)", bills.line(1, 8), 50);
        checks.due("unpaid(6)", bills.unpaid(6), 14);
        bills.dispute(1, false);
        dueDisputed(checks, bills, 0, 0, 0, 0);
        checks.due("unpaid(6) no more disputed", bills.unpaid(6), 64);
        checks.due("correct(1, 51), no more disputed", bills.correct(1, 51), 4);
        dueDisputed(checks, bills, 0, 0, 0, 0, 0);
    }

    private static void dueDisputed(Checks checks, PortBills bills, int... want) {
        for (int i = 0; i < want.length; i++) {
            checks.due("line(" + i + ", 6)", bills.line(i, 6), want[i]);
        }
    }

    private static void noSuchLine(Checks checks) {
        Untouched none = new Untouched(checks, bills -> bills.event(0, 0, 1));
        none.dueIllegalArgument("dispute(0, true) without lines", bills -> bills.dispute(0, true));
        none.dueIllegalArgument("dispute(0, false) without lines", bills -> bills.dispute(0, false));
        // -1 is also what a line that corrects none has as the line that it CORRECTS.
        Untouched four = new Untouched(checks, bills -> {
            makeThreeLines(bills);
            bills.correct(0, 1);
        });
        for (int line : new int[] {-1, 4, 5, 200, Integer.MIN_VALUE, Integer.MAX_VALUE}) {
            four.dueIllegalArgument("dispute(" + line + ", true)", bills -> bills.dispute(line, true));
            four.dueIllegalArgument("dispute(" + line + ", false)", bills -> bills.dispute(line, false));
        }
    }

    private static void theLastOf200(Checks checks) {
        PortBills bills = new PortBills();
        Checks.fillLines(bills, 0, 200);
        checks.dueAnswer("dispute(199, true)", () -> bills.dispute(199, true), 1);
        checks.due("line(199, 6)", bills.line(199, 6), 1);
        checks.due("line(198, 6)", bills.line(198, 6), 0);
        checks.due("unpaid(0)", bills.unpaid(0), 199 * 7);
        checks.dueIllegalArgument("dispute(200, true)", () -> bills.dispute(200, true));
    }
}
