import java.math.BigDecimal;
import java.math.RoundingMode;

/** Promise 7: bill, with LINE, CHARGED, CENTS and FALLBACK. */
public final class BillTest {
    public static void main(String[] args) {
        Checks checks = new Checks("BillTest");
        wrongCalls(checks);
        oneLineAKindByKinds(checks);
        takesOnlyItsOwnEvents(checks);
        freeUnitsCountAnew(checks);
        halfACentGoesUp(checks);
        leastIfSomeIsCharged(checks);
        discountsComeBeforeRoundingAndLeast(checks);
        fallback(checks);
        tariffOfTheTimeOfTheBill(checks);
        largestSums(checks);
        roomFor200(checks);
        checks.end();
    }

    private static PortBills billed(String text, int kind, int... amounts) {
        PortBills bills = new PortBills();
        Checks.readText(bills, text);
        for (int amount : amounts) {
            bills.event(0, kind, amount);
        }
        bills.bill(0);
        return bills;
    }

    private static void dueCents(Checks checks, String text, int amount, long want) {
        checks.due("cents of " + amount + " by " + text, billed(text, 0, amount).line(0, 4), want);
    }

    private static void wrongCalls(Checks checks) {
        PortBills bills = new PortBills();
        for (int call : new int[] {-1, 10, Integer.MIN_VALUE, Integer.MAX_VALUE}) {
            checks.dueIllegalArgument("bill(" + call + ")", () -> bills.bill(call));
        }
    }

    private static void oneLineAKindByKinds(Checks checks) {
        PortBills bills = new PortBills();
        Checks.readText(bills, "A2;C3;F5-1;");
        bills.event(7, 5, 3);
        bills.event(7, 2, 61);
        bills.event(7, 0, 4);
        bills.event(7, 5, 2);
        bills.event(7, 4, 1001);
        checks.due("bill(7)", bills.bill(7), 4);
        checks.dueLine(bills, 0, 7, 0, 4, 4, 8, -1, 0, 0, 8);
        checks.dueLine(bills, 1, 7, 2, 2, 2, 6, -1, 0, 0, 6);
        checks.dueLine(bills, 2, 7, 4, 2, 2, 14, -1, 0, 1, 14);
        checks.dueLine(bills, 3, 7, 5, 5, 4, 20, -1, 0, 0, 20);
        checks.due("bill(7) again", bills.bill(7), 0);
        checks.due("count(2)", bills.count(2), 4);
    }

    private static void takesOnlyItsOwnEvents(Checks checks) {
        PortBills bills = new PortBills();
        bills.event(0, 0, 1);
        bills.event(1, 0, 2);
        bills.event(1, 1, 2);
        checks.due("bill(0)", bills.bill(0), 1);
        checks.due("count(20)", bills.count(20), 0);
        checks.due("count(21)", bills.count(21), 2);
        checks.due("count(1)", bills.count(1), 2);
        checks.due("bill(2)", bills.bill(2), 0);
        checks.due("bill(1)", bills.bill(1), 2);
        checks.dueLine(bills, 1, 1, 0, 2);
        checks.due("count(1)", bills.count(1), 0);
    }

    private static void freeUnitsCountAnew(Checks checks) {
        PortBills bills = new PortBills();
        Checks.readText(bills, "A10-3>5;");
        for (int amount : new int[] {2, 3, 4, 10}) {
            bills.event(0, 0, amount);
            checks.due("bill of " + amount, bills.bill(0), 1);
        }
        checks.dueLine(bills, 0, 0, 0, 2, 0, 0);
        checks.dueLine(bills, 1, 0, 0, 3, 0, 0);
        checks.dueLine(bills, 2, 0, 0, 4, 1, 10);
        checks.dueLine(bills, 3, 0, 0, 10, 7, 70);
        PortBills together = billed("A10-3;", 0, 2, 2, 2);
        checks.dueLine(together, 0, 0, 0, 6, 3, 30);
    }

    private static void halfACentGoesUp(Checks checks) {
        dueCents(checks, "A1/2;", 1, 1);
        dueCents(checks, "A1/2;", 3, 2);
        dueCents(checks, "A1/2;", 4, 2);
        dueCents(checks, "A1/3;", 1, 0);
        dueCents(checks, "A1/3;", 2, 1);
        dueCents(checks, "A1/9999;", 4999, 0);
        dueCents(checks, "A1/9999;", 5000, 1);
        dueCents(checks, "A1/9998;", 4998, 0);
        dueCents(checks, "A1/9998;", 4999, 1);
        dueCents(checks, "A0;", 50000, 0);
    }

    private static void leastIfSomeIsCharged(Checks checks) {
        dueCents(checks, "A1>10;", 9, 10);
        dueCents(checks, "A1>10;", 10, 10);
        dueCents(checks, "A1>10;", 11, 11);
        dueCents(checks, "A1-5>10;", 5, 0);
        dueCents(checks, "A1-5>10;", 6, 10);
        dueCents(checks, "A0>999999;", 1, 999999);
        dueCents(checks, "A1/9999>1;", 1, 1);
    }

    private static void discountsComeBeforeRoundingAndLeast(Checks checks) {
        PortBills bills = new PortBills();
        Checks.readText(bills, "A5/2>4;B5/2-1>4;");
        bills.discount(0, 0, 1, 3);
        bills.discount(0, 1, 1, 1);
        // 5 * 5 / 2 * 2 / 3 = 8.33, not 13 * 2 / 3 = 8.67; 5 * 1 / 2 * 2 / 3 = 1.67 is 4 at least.
        bills.event(0, 0, 5);
        bills.bill(0);
        bills.event(0, 0, 1);
        bills.event(0, 1, 9);
        bills.bill(0);
        bills.event(0, 1, 1);
        bills.bill(0);
        checks.dueLine(bills, 0, 0, 0, 5, 5, 8);
        checks.dueLine(bills, 1, 0, 0, 1, 1, 4);
        checks.dueLine(bills, 2, 0, 1, 9, 8, 4);
        checks.dueLine(bills, 3, 0, 1, 1, 0, 0);
    }

    private static void fallback(Checks checks) {
        for (int kind = 0; kind < 6; kind++) {
            PortBills bills = new PortBills();
            int units = bills.event(3, kind, 2881);
            bills.discount(3, kind, 1, 2);
            bills.bill(3);
            checks.dueLine(bills, 0, 3, kind, units, units, (7L * units + 1) / 2, -1, 0, 1);
        }
    }

    private static void tariffOfTheTimeOfTheBill(Checks checks) {
        PortBills bills = new PortBills();
        bills.event(0, 0, 10);
        Checks.readText(bills, "A1;");
        bills.bill(0);
        Checks.readText(bills, "A2;");
        bills.event(0, 0, 10);
        bills.bill(0);
        checks.dueLine(bills, 0, 0, 0, 10, 10, 10, -1, 0, 0, 10);
        checks.dueLine(bills, 1, 0, 0, 10, 10, 20, -1, 0, 0, 20);
    }

    private static void largestSums(Checks checks) {
        PortBills bills = new PortBills();
        Checks.readText(bills, "A999999;B999999/9999;");
        for (int i = 0; i < 3; i++) {
            bills.discount(0, 0, 0, 100);
            bills.discount(0, 1, 1, 100);
        }
        for (int kind = 0; kind < 2; kind++) {
            for (int i = 0; i < 100; i++) {
                bills.event(0, kind, 50000);
            }
            bills.bill(0);
        }
        checks.dueLine(bills, 0, 0, 0, 5000000, 5000000, 4999995000000L);
        // three times 99 / 100 leave 0.970299
        long want = new BigDecimal("0.970299").multiply(BigDecimal.valueOf(999999L * 5000000))
            .divide(BigDecimal.valueOf(9999), 0, RoundingMode.HALF_UP).longValueExact();
        checks.dueLine(bills, 1, 0, 1, 5000000, 5000000, want);
    }

    private static void roomFor200(Checks checks) {
        PortBills bills = new PortBills();
        Checks.fillLines(bills, 0, 198);
        for (int kind = 0; kind < 3; kind++) {
            bills.event(1, kind, 1);
        }
        checks.dueIllegalState("bill(1) of 3 lines behind 198", () -> bills.bill(1));
        checks.due("count(2) after it", bills.count(2), 198);
        checks.due("count(21) after it", bills.count(21), 3);
        bills.event(2, 4, 1);
        bills.event(2, 5, 1);
        checks.due("bill(2) of 2 lines behind 198", bills.bill(2), 2);
        checks.due("count(2)", bills.count(2), 200);
        checks.due("bill(3) of no lines behind 200", bills.bill(3), 0);
        checks.dueIllegalState("bill(1) behind 200", () -> bills.bill(1));
        checks.dueIllegalArgument("bill(10) behind 200", () -> bills.bill(10));
        checks.due("count(1)", bills.count(1), 3);
    }
}
