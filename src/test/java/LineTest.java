/** Promise 13: line. */
public final class LineTest {
    public static void main(String[] args) {
        Checks checks = new Checks("LineTest");
        allOfEachLine(checks);
        theLineThatItCorrects(checks);
        withItsCorrections(checks);
        noSuchLine(checks);
        noSuchWhat(checks);
        noLinesAtAll(checks);
        theLastOf200(checks);
        askingChangesNothing(checks);
        checks.end();
    }

    private static void makeFourLines(PortBills bills) {
        Checks.readText(bills, "C30/7-2>5;");
        bills.event(8, 2, 600);
        bills.event(8, 3, 1);
        bills.bill(8);
        bills.correct(0, 20);
        bills.correct(0, 33);
        bills.dispute(0, true);
    }

    private static void allOfEachLine(Checks checks) {
        PortBills bills = new PortBills();
        makeFourLines(bills);
        // 30 * 8 / 7 = 34.29
        checks.dueLine(bills, 0, 8, 2, 10, 8, 34, -1, 1, 0, 33);
        checks.dueLine(bills, 1, 8, 3, 1, 1, 7, -1, 0, 1, 7);
        checks.dueLine(bills, 2, 8, 2, 0, 0, -14, 0, 1, 0, -14);
        checks.dueLine(bills, 3, 8, 2, 0, 0, 13, 0, 1, 0, 13);
    }

    private static void theLineThatItCorrects(Checks checks) {
        PortBills bills = new PortBills();
        Checks.fillLines(bills, 2, 6);
        for (int line = 5; line >= 0; line--) {
            checks.due("line(" + line + ", 5) without", bills.line(line, 5), -1);
            bills.correct(line, 100 + line);
        }
        for (int line = 0; line < 6; line++) {
            checks.due("line(" + line + ", 5) of a corrected line", bills.line(line, 5), -1);
            checks.due("line(" + (11 - line) + ", 5) of a correction", bills.line(11 - line, 5), line);
            checks.due("line(" + (11 - line) + ", 1), its kind", bills.line(11 - line, 1), line);
        }
    }

    private static void withItsCorrections(Checks checks) {
        PortBills bills = new PortBills();
        bills.event(0, 0, 1);
        bills.event(0, 1, 2);
        bills.bill(0);
        checks.due("line(0, 8) without corrections", bills.line(0, 8), 7);
        bills.correct(0, 10);
        bills.correct(1, 5);
        bills.correct(0, 0);
        bills.correct(0, 1000000000000L);
        checks.due("line(0, 8)", bills.line(0, 8), 1000000000000L);
        checks.due("line(0, 4), its own cents", bills.line(0, 4), 7);
        checks.due("line(1, 8)", bills.line(1, 8), 5);
        checks.due("line(1, 4), its own cents", bills.line(1, 4), 14);
        long[] differences = {3, -9, -10, 1000000000000L};
        for (int i = 0; i < differences.length; i++) {
            checks.due("line(" + (2 + i) + ", 4)", bills.line(2 + i, 4), differences[i]);
            checks.due("line(" + (2 + i) + ", 8), its own cents", bills.line(2 + i, 8), differences[i]);
        }
    }

    private static void noSuchLine(Checks checks) {
        Untouched four = new Untouched(checks, LineTest::makeFourLines);
        for (int i : new int[] {-1, 4, 5, 200, Integer.MIN_VALUE, Integer.MAX_VALUE}) {
            for (int what = 0; what < 9; what++) {
                dueNone(four, i, what);
            }
            dueNone(four, i, -1);
            dueNone(four, i, 9);
        }
    }

    private static void noSuchWhat(Checks checks) {
        Untouched four = new Untouched(checks, LineTest::makeFourLines);
        for (int what : new int[] {-1, 9, 10, Integer.MIN_VALUE, Integer.MAX_VALUE}) {
            for (int i = 0; i < 4; i++) {
                dueNone(four, i, what);
            }
        }
    }

    private static void noLinesAtAll(Checks checks) {
        Untouched none = new Untouched(checks, bills -> bills.event(0, 0, 1));
        dueNone(none, 0, 0);
        dueNone(none, 0, 8);
        dueNone(none, -1, 0);
    }

    private static void dueNone(Untouched made, int i, int what) {
        made.dueThrow("line(" + i + ", " + what + ")", IndexOutOfBoundsException.class, bills -> bills.line(i, what));
    }

    private static void theLastOf200(Checks checks) {
        PortBills bills = new PortBills();
        Checks.fillLines(bills, 3, 200);
        checks.dueLine(bills, 199, 3, 1, 1, 1, 7, -1, 0, 1, 7);
        checks.dueThrow("line(200, 0)", IndexOutOfBoundsException.class, () -> bills.line(200, 0));
        checks.dueThrow("line(199, 9)", IndexOutOfBoundsException.class, () -> bills.line(199, 9));
    }

    private static void askingChangesNothing(Checks checks) {
        Untouched four = new Untouched(checks, LineTest::makeFourLines);
        four.due("line(0, 8)", bills -> bills.line(0, 8), 33);
        four.due("line(3, 5)", bills -> bills.line(3, 5), 0);
    }
}
