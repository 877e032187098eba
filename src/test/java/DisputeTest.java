/** Promise 9: dispute. */
public final class DisputeTest {
    public static void main(String[] args) {
        Checks checks = new Checks("DisputeTest");
        onAndOff(checks);
        correctionsGoAlong(checks);
        wrongLines(checks);
        checks.end();
    }

    private static PortBills threeLines() {
        PortBills bills = new PortBills();
        for (int kind = 0; kind < 3; kind++) {
            bills.event(6, kind, 1);
        }
        bills.bill(6);
        return bills;
    }

    private static void onAndOff(Checks checks) {
        PortBills bills = threeLines();
        checks.due("dispute(1, false) at first", bills.dispute(1, false), 0);
        checks.due("dispute(1, true)", bills.dispute(1, true), 1);
        checks.due("line(1, 6)", bills.line(1, 6), 1);
        checks.due("line(0, 6)", bills.line(0, 6), 0);
        checks.due("line(2, 6)", bills.line(2, 6), 0);
        checks.due("unpaid(6)", bills.unpaid(6), 14);
        checks.due("dispute(1, true) again", bills.dispute(1, true), 0);
        checks.due("line(1, 6) after it", bills.line(1, 6), 1);
        checks.due("dispute(1, false)", bills.dispute(1, false), 1);
        checks.due("line(1, 6) after it", bills.line(1, 6), 0);
        checks.due("unpaid(6) after it", bills.unpaid(6), 21);
        checks.due("line(1, 4) after it", bills.line(1, 4), 7);
    }

    private static void correctionsGoAlong(Checks checks) {
        PortBills bills = threeLines();
        bills.correct(1, 100);
        bills.correct(2, 200);
        checks.due("dispute(3, true), a correction", bills.dispute(3, true), 0);
        checks.due("dispute(3, false), a correction", bills.dispute(3, false), 0);
        checks.due("line(3, 6)", bills.line(3, 6), 0);
        bills.dispute(1, true);
        checks.due("line(3, 6) with its line", bills.line(3, 6), 1);
        checks.due("line(4, 6), of another line", bills.line(4, 6), 0);
        checks.due("dispute(3, false), of a disputed line", bills.dispute(3, false), 0);
        checks.due("dispute(3, true), of a disputed line", bills.dispute(3, true), 0);
        checks.due("line(3, 6) after them", bills.line(3, 6), 1);
        checks.due("correct(1, 50), disputed", bills.correct(1, 50), 5);
        checks.due("line(5, 6), made of a disputed line", bills.line(5, 6), 1);
        checks.due("line(1, 8)", bills.line(1, 8), 50);
        checks.due("unpaid(6)", bills.unpaid(6), 207);
        bills.dispute(1, false);
        checks.due("line(1, 6) no more", bills.line(1, 6), 0);
        checks.due("line(3, 6) no more", bills.line(3, 6), 0);
        checks.due("line(5, 6) no more", bills.line(5, 6), 0);
        checks.due("unpaid(6)", bills.unpaid(6), 257);
    }

    private static void wrongLines(Checks checks) {
        PortBills bills = threeLines();
        for (int line : new int[] {-1, 3, 200, Integer.MIN_VALUE, Integer.MAX_VALUE}) {
            checks.dueIllegalArgument("dispute(" + line + ", true)", () -> bills.dispute(line, true));
            checks.dueIllegalArgument("dispute(" + line + ", false)", () -> bills.dispute(line, false));
        }
        checks.dueIllegalArgument("dispute(0, true) without lines", () -> new PortBills().dispute(0, true));
    }
}
