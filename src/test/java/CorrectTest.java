/** Promise 8: correct. */
public final class CorrectTest {
    private static final long MOST = 1000000000000L;

    public static void main(String[] args) {
        Checks checks = new Checks("CorrectTest");
        aCorrectionIsALineOfItsOwn(checks);
        moreThanOnce(checks);
        noneWithoutADifference(checks);
        wrongArguments(checks);
        atMost200Lines(checks);
        checks.end();
    }

    private static PortBills twoLines() {
        PortBills bills = new PortBills();
        Checks.readText(bills, "B10;");
        bills.event(4, 1, 3);
        bills.event(4, 2, 3);
        bills.bill(4);
        return bills;
    }

    private static void aCorrectionIsALineOfItsOwn(Checks checks) {
        PortBills bills = twoLines();
        checks.due("correct(0, 50)", bills.correct(0, 50), 2);
        checks.dueLine(bills, 0, 4, 1, 3, 3, 30, -1, 0, 0, 50);
        checks.dueLine(bills, 2, 4, 1, 0, 0, 20, 0, 0, 0, 20);
        checks.due("correct(1, 1)", bills.correct(1, 1), 3);
        checks.dueLine(bills, 1, 4, 2, 1, 1, 7, -1, 0, 1, 1);
        checks.dueLine(bills, 3, 4, 2, 0, 0, -6, 1, 0, 0, -6);
        checks.due("count(2)", bills.count(2), 4);
        checks.due("count(14)", bills.count(14), 4);
        checks.due("unpaid(4)", bills.unpaid(4), 51);
    }

    private static void moreThanOnce(Checks checks) {
        PortBills bills = twoLines();
        checks.due("correct(0, MOST)", bills.correct(0, MOST), 2);
        checks.due("correct(0, 0)", bills.correct(0, 0), 3);
        checks.due("correct(0, 30)", bills.correct(0, 30), 4);
        checks.dueLine(bills, 2, 4, 1, 0, 0, MOST - 30, 0, 0, 0, MOST - 30);
        checks.dueLine(bills, 3, 4, 1, 0, 0, -MOST, 0, 0, 0, -MOST);
        checks.dueLine(bills, 4, 4, 1, 0, 0, 30, 0, 0, 0, 30);
        checks.dueLine(bills, 0, 4, 1, 3, 3, 30, -1, 0, 0, 30);
        checks.due("unpaid(4)", bills.unpaid(4), 37);
    }

    private static void noneWithoutADifference(Checks checks) {
        PortBills bills = twoLines();
        checks.due("correct(0, 30), its own cents", bills.correct(0, 30), -1);
        checks.due("count(2) after it", bills.count(2), 2);
        bills.correct(0, 40);
        checks.due("correct(0, 40) again", bills.correct(0, 40), -1);
        checks.due("correct(2, 10), a correction to its own cents", bills.correct(2, 10), -1);
        checks.due("correct(2, 11), a correction to others", bills.correct(2, 11), -1);
        checks.due("count(2) after them", bills.count(2), 3);
        checks.due("unpaid(4) after them", bills.unpaid(4), 47);
        checks.due("correct(0, 30), the cents it was billed with", bills.correct(0, 30), 3);
    }

    private static void wrongArguments(Checks checks) {
        PortBills bills = twoLines();
        bills.correct(0, 40);
        for (int line : new int[] {-1, 3, 200, Integer.MIN_VALUE, Integer.MAX_VALUE}) {
            checks.dueIllegalArgument("correct(" + line + ", 1)", () -> bills.correct(line, 1));
        }
        for (long cents : new long[] {-1, MOST + 1, Long.MIN_VALUE, Long.MAX_VALUE}) {
            checks.dueIllegalArgument("correct(1, " + cents + ")", () -> bills.correct(1, cents));
            checks.dueIllegalArgument("correct(2, " + cents + "), a correction", () -> bills.correct(2, cents));
        }
        checks.due("count(2)", bills.count(2), 3);
    }

    private static void atMost200Lines(Checks checks) {
        PortBills bills = new PortBills();
        Checks.fillLines(bills, 0, 199);
        checks.due("correct(5, 1) behind 199", bills.correct(5, 1), 199);
        checks.dueIllegalState("correct(5, 2) behind 200", () -> bills.correct(5, 2));
        checks.due("line(5, 8) after it", bills.line(5, 8), 1);
        checks.due("count(2) after it", bills.count(2), 200);
        // "IllegalStateException if there are 200 lines" is told without a condition more.
        checks.dueIllegalState("correct(5, 1), no difference, behind 200", () -> bills.correct(5, 1));
        checks.dueIllegalState("correct(199, 1), a correction, behind 200", () -> bills.correct(199, 1));
        checks.dueIllegalArgument("correct(200, 1) behind 200", () -> bills.correct(200, 1));
        checks.dueIllegalArgument("correct(5, -1) behind 200", () -> bills.correct(5, -1));
    }
}
