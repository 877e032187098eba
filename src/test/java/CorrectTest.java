/** Promise 8: correct. */
public final class CorrectTest {
    private static final long MOST = 1000000000000L;

    public static void main(String[] args) {
        Checks checks = new Checks("CorrectTest");
        aCorrectionIsALineOfItsOwn(checks);
        moreThanOnce(checks);
        theLeastAndTheMostCents(checks);
        ofALineAboveTheMostCents(checks);
        justTheseCents(checks);
        aLineThatIsACorrection(checks);
        centsThatCannotBe(checks);
        noSuchLine(checks);
        the200thLine(checks);
        behind200Lines(checks);
        checks.end();
    }

    /** Line 0 has 30 cents by a tariff, line 1 has 7 by the FALLBACK. */
    private static PortBills twoLines() {
        PortBills bills = new PortBills();
        makeTwoLines(bills);
        return bills;
    }

    private static void makeTwoLines(PortBills bills) {
        Checks.readText(bills, "B10;");
        bills.event(4, 1, 3);
        bills.event(4, 2, 3);
        bills.bill(4);
    }

    private static void aCorrectionIsALineOfItsOwn(Checks checks) {
        PortBills bills = twoLines();
        checks.due("correct(0, 50)", bills.correct(0, 50), 2);
        checks.dueLine(bills, 0, 4, 1, 3, 3, 30, -1, 0, 0, 50);
        checks.dueLine(bills, 2, 4, 1, 0, 0, 20, 0, 0, 0, 20);
        checks.due("correct(1, 1)", bills.correct(1, 1), 3);
        checks.dueLine(bills, 1, 4, 2, 1, 1, 7, -1, 0, 1, 1);
        checks.dueLine(bills, 3, 4, 2, 0, 0, -6, 1, 0, 0, -6);
        checks.due("count(2)", bills.count(2), 4);
        checks.due("count(14)", bills.count(14), 4);
        checks.due("unpaid(4)", bills.unpaid(4), 51);
    }

    private static void moreThanOnce(Checks checks) {
        PortBills bills = twoLines();
        checks.due("correct(0, MOST)", bills.correct(0, MOST), 2);
        checks.due("correct(0, 0)", bills.correct(0, 0), 3);
        checks.due("correct(0, 30)", bills.correct(0, 30), 4);
        checks.dueLine(bills, 2, 4, 1, 0, 0, MOST - 30, 0, 0, 0, MOST - 30);
        checks.dueLine(bills, 3, 4, 1, 0, 0, -MOST, 0, 0, 0, -MOST);
        checks.dueLine(bills, 4, 4, 1, 0, 0, 30, 0, 0, 0, 30);
        checks.dueLine(bills, 0, 4, 1, 3, 3, 30, -1, 0, 0, 30);
        checks.due("unpaid(4)", bills.unpaid(4), 37);
    }

    private static void theLeastAndTheMostCents(Checks checks) {
        for (long cents : new long[] {0, 1, 29, 31, MOST - 1, MOST}) {
            PortBills bills = twoLines();
            checks.dueAnswer("correct(0, " + cents + ")", () -> bills.correct(0, cents), 2);
            checks.dueLine(bills, 0, 4, 1, 3, 3, 30, -1, 0, 0, cents);
            checks.dueLine(bills, 2, 4, 1, 0, 0, cents - 30, 0, 0, 0, cents - 30);
            checks.due("unpaid(4)", bills.unpaid(4), cents + 7);
        }
    }

    /** A bill may have more cents than a correction can tell. */
    private static void ofALineAboveTheMostCents(Checks checks) {
        Untouched large = new Untouched(checks, CorrectTest::largestLine);
        large.dueIllegalArgument("correct to its own cents", bills -> bills.correct(0, 4999995000000L));
        PortBills bills = new PortBills();
        largestLine(bills);
        checks.dueAnswer("correct(0, MOST)", () -> bills.correct(0, MOST), 1);
        checks.dueLine(bills, 1, 0, 0, 0, 0, -3999995000000L, 0, 0, 0, -3999995000000L);
        checks.due("unpaid(0)", bills.unpaid(0), MOST);
    }

    private static void largestLine(PortBills bills) {
        Checks.readText(bills, "A999999;");
        for (int i = 0; i < 100; i++) {
            bills.event(0, 0, 50000);
        }
        bills.bill(0);
    }

    private static void justTheseCents(Checks checks) {
        Untouched billed = new Untouched(checks, CorrectTest::makeTwoLines);
        billed.due("correct(0, 30), its own cents", bills -> bills.correct(0, 30), -1);
        billed.due("correct(1, 7), its own cents", bills -> bills.correct(1, 7), -1);
        Untouched corrected = new Untouched(checks, bills -> {
            makeTwoLines(bills);
            bills.correct(0, 40);
            bills.correct(1, 0);
            bills.dispute(1, true);
        });
        corrected.due("correct(0, 40) again", bills -> bills.correct(0, 40), -1);
        corrected.due("correct(1, 0) again", bills -> bills.correct(1, 0), -1);
        PortBills back = twoLines();
        back.correct(0, 40);
        checks.due("correct(0, 30), the cents it was billed with", back.correct(0, 30), 3);
        checks.due("correct(0, 30) again", back.correct(0, 30), -1);
        checks.due("correct(0, 40), the cents of before", back.correct(0, 40), 4);
        PortBills free = new PortBills();
        Checks.readText(free, "A5-9;");
        free.event(0, 0, 9);
        free.bill(0);
        checks.due("correct(0, 0) of a line of 0 cents", free.correct(0, 0), -1);
        checks.due("correct(0, 1) of a line of 0 cents", free.correct(0, 1), 1);
    }

    private static void aLineThatIsACorrection(Checks checks) {
        Untouched corrected = new Untouched(checks, bills -> {
            makeTwoLines(bills);
            bills.correct(0, 40);
            bills.correct(1, 5);
            bills.dispute(1, true);
        });
        for (long cents : new long[] {0, 10, 11, 40, MOST}) {
            corrected.due("correct(2, " + cents + "), a correction", bills -> bills.correct(2, cents), -1);
            corrected.due("correct(3, " + cents + "), a disputed correction", bills -> bills.correct(3, cents), -1);
        }
    }

    private static void centsThatCannotBe(Checks checks) {
        Untouched corrected = new Untouched(checks, bills -> {
            makeTwoLines(bills);
            bills.correct(0, 40);
        });
        for (long cents : new long[] {-1, MOST + 1, -MOST, Long.MIN_VALUE, Long.MAX_VALUE}) {
            for (int line = 0; line <= 2; line++) {
                int of = line;
                corrected.dueIllegalArgument("correct(" + line + ", " + cents + ")", bills -> bills.correct(of, cents));
            }
        }
    }

    private static void noSuchLine(Checks checks) {
        Untouched none = new Untouched(checks, bills -> bills.event(0, 0, 1));
        none.dueIllegalArgument("correct(0, 1) without lines", bills -> bills.correct(0, 1));
        Untouched three = new Untouched(checks, bills -> {
            makeTwoLines(bills);
            bills.correct(0, 40);
        });
        for (int line : new int[] {-1, 3, 4, 200, Integer.MIN_VALUE, Integer.MAX_VALUE}) {
            three.dueIllegalArgument("correct(" + line + ", 1)", bills -> bills.correct(line, 1));
            three.dueIllegalArgument("correct(" + line + ", -1)", bills -> bills.correct(line, -1));
        }
    }

    private static void the200thLine(Checks checks) {
        PortBills bills = new PortBills();
        Checks.fillLines(bills, 0, 198);
        checks.dueAnswer("correct(0, 1) behind 198", () -> bills.correct(0, 1), 198);
        checks.dueAnswer("correct(197, 1) behind 199", () -> bills.correct(197, 1), 199);
        checks.dueIllegalState("correct(197, 2) behind 200", () -> bills.correct(197, 2));
        checks.due("line(197, 8) after it", bills.line(197, 8), 1);
        checks.due("count(2) after it", bills.count(2), 200);
    }

    private static void behind200Lines(Checks checks) {
        Untouched full = new Untouched(checks, bills -> {
            Checks.fillLines(bills, 0, 199);
            bills.correct(5, 1);
        });
        full.dueIllegalState("correct(5, 2) behind 200", bills -> bills.correct(5, 2));
        full.dueIllegalState("correct(0, 0) behind 200", bills -> bills.correct(0, 0));
        full.dueIllegalState("correct(198, MOST) behind 200", bills -> bills.correct(198, MOST));
        // "IllegalStateException if there are 200 lines" is told without a condition more.
        full.dueIllegalState("correct(5, 1), just these cents, behind 200", bills -> bills.correct(5, 1));
        full.dueIllegalState("correct(199, 1), a correction, behind 200", bills -> bills.correct(199, 1));
        full.dueIllegalArgument("correct(200, 1) behind 200", bills -> bills.correct(200, 1));
        full.dueIllegalArgument("correct(-1, 1) behind 200", bills -> bills.correct(-1, 1));
        full.dueIllegalArgument("correct(5, -1) behind 200", bills -> bills.correct(5, -1));
        full.dueIllegalArgument("correct(5, MOST + 1) behind 200", bills -> bills.correct(5, MOST + 1));
    }
}
