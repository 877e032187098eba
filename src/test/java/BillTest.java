import java.math.BigDecimal;
import java.math.RoundingMode;

/** Promise 7: bill, with LINE, CHARGED, CENTS and FALLBACK. */
public final class BillTest {
    public static void main(String[] args) {
        Checks checks = new Checks("BillTest");
        noSuchCall(checks);
        noEventsThatWait(checks);
        oneLineAKindByKinds(checks);
        takesOnlyItsOwnEvents(checks);
        freeUnitsCountAnew(checks);
        freeUnitsOnceForAllEventsOfABill(checks);
        freeUnitsThatTakeAll(checks);
        halfACentGoesUp(checks);
        eachLineIsRoundedOnce(checks);
        leastIfSomeIsCharged(checks);
        discountsComeBeforeRoundingAndLeast(checks);
        fallbackOfEveryKind(checks);
        fallbackLessDiscounts(checks);
        fallbackBesideATariff(checks);
        aWrongTextLeavesTheFallback(checks);
        tariffOfTheTimeOfTheBill(checks);
        largestSums(checks);
        noRoomForAllOfThem(checks);
        justRoomForThem(checks);
        aSmallerBillHasRoomStill(checks);
        correctionsTakeRoomToo(checks);
        checks.end();
    }

    private static PortBills billed(String text, int kind, int... amounts) {
        PortBills bills = new PortBills();
        Checks.readText(bills, text);
        for (int amount : amounts) {
            bills.event(0, kind, amount);
        }
        bills.bill(0);
        return bills;
    }

    private static void dueCents(Checks checks, String text, int amount, long want) {
        checks.due("cents of " + amount + " by " + text, billed(text, 0, amount).line(0, 4), want);
    }

    private static void noSuchCall(Checks checks) {
        Untouched busy = new Untouched(checks, Untouched::busyWithText);
        for (int call : new int[] {-1, 10, 11, Integer.MIN_VALUE, Integer.MAX_VALUE}) {
            busy.dueIllegalArgument("bill(" + call + ")", bills -> bills.bill(call));
        }
    }

    private static void noEventsThatWait(Checks checks) {
        Untouched busy = new Untouched(checks, Untouched::busyWithText);
        for (int call : new int[] {1, 2, 4, 8}) {
            busy.due("bill(" + call + ") of no events", bills -> bills.bill(call), 0);
        }
        PortBills bills = new PortBills();
        bills.event(9, 0, 1);
        checks.due("bill(9)", bills.bill(9), 1);
        checks.due("bill(9) again", bills.bill(9), 0);
        checks.due("count(2)", bills.count(2), 1);
    }

    private static void oneLineAKindByKinds(Checks checks) {
        PortBills bills = new PortBills();
        Checks.readText(bills, "A2;C3;F5-1;");
        bills.event(7, 5, 3);
        bills.event(7, 2, 61);
        bills.event(7, 0, 4);
        bills.event(7, 5, 2);
        bills.event(7, 4, 1001);
        checks.due("bill(7)", bills.bill(7), 4);
        checks.dueLine(bills, 0, 7, 0, 4, 4, 8, -1, 0, 0, 8);
        checks.dueLine(bills, 1, 7, 2, 2, 2, 6, -1, 0, 0, 6);
        checks.dueLine(bills, 2, 7, 4, 2, 2, 14, -1, 0, 1, 14);
        checks.dueLine(bills, 3, 7, 5, 5, 4, 20, -1, 0, 0, 20);
        checks.due("bill(7) again", bills.bill(7), 0);
        checks.due("count(2)", bills.count(2), 4);
    }

    private static void takesOnlyItsOwnEvents(Checks checks) {
        PortBills bills = new PortBills();
        bills.event(0, 0, 1);
        bills.event(1, 0, 2);
        bills.event(1, 1, 2);
        checks.due("bill(0)", bills.bill(0), 1);
        checks.due("count(20)", bills.count(20), 0);
        checks.due("count(21)", bills.count(21), 2);
        checks.due("count(1)", bills.count(1), 2);
        checks.due("bill(2)", bills.bill(2), 0);
        checks.due("bill(1)", bills.bill(1), 2);
        checks.dueLine(bills, 1, 1, 0, 2);
        checks.due("count(1)", bills.count(1), 0);
    }

    private static void freeUnitsCountAnew(Checks checks) {
        PortBills bills = new PortBills();
        Checks.readText(bills, "A10-3;");
        for (int call : new int[] {0, 0, 1}) {
            bills.event(call, 0, 4);
            bills.bill(call);
        }
        checks.dueLine(bills, 0, 0, 0, 4, 1, 10);
        checks.dueLine(bills, 1, 0, 0, 4, 1, 10);
        checks.dueLine(bills, 2, 1, 0, 4, 1, 10);
    }

    private static void freeUnitsOnceForAllEventsOfABill(Checks checks) {
        checks.dueLine(billed("A10-3;", 0, 2, 2, 2), 0, 0, 0, 6, 3, 30);
        checks.dueLine(billed("A10-3;", 0, 1, 1, 1), 0, 0, 0, 3, 0, 0);
        checks.dueLine(billed("C10-3;", 2, 1, 61, 1), 0, 0, 2, 4, 1, 10);
    }

    private static void freeUnitsThatTakeAll(Checks checks) {
        // a unit less than FREE, just FREE, and one more
        checks.dueLine(billed("A10-3>50;", 0, 2), 0, 0, 0, 2, 0, 0, -1, 0, 0, 0);
        checks.dueLine(billed("A10-3>50;", 0, 3), 0, 0, 0, 3, 0, 0, -1, 0, 0, 0);
        checks.dueLine(billed("A10-3>50;", 0, 4), 0, 0, 0, 4, 1, 50, -1, 0, 0, 50);
        checks.dueLine(billed("A10-9999;", 0, 9998), 0, 0, 0, 9998, 0, 0);
        checks.dueLine(billed("A10-9999;", 0, 9999), 0, 0, 0, 9999, 0, 0);
        checks.dueLine(billed("A10-9999;", 0, 10000), 0, 0, 0, 10000, 1, 10);
        checks.dueLine(billed("A10-0;", 0, 1), 0, 0, 0, 1, 1, 10);
        checks.dueLine(billed("A10-9999>999999;", 0, 1), 0, 0, 0, 1, 0, 0);
    }

    private static void halfACentGoesUp(Checks checks) {
        dueCents(checks, "A1/2;", 1, 1);
        dueCents(checks, "A1/2;", 3, 2);
        dueCents(checks, "A1/2;", 4, 2);
        dueCents(checks, "A1/3;", 1, 0);
        dueCents(checks, "A1/3;", 2, 1);
        dueCents(checks, "A1/9999;", 4999, 0);
        dueCents(checks, "A1/9999;", 5000, 1);
        dueCents(checks, "A1/9998;", 4998, 0);
        dueCents(checks, "A1/9998;", 4999, 1);
        dueCents(checks, "A0;", 50000, 0);
        dueCents(checks, "A3/2;", 1, 2);
        dueCents(checks, "A5/2;", 1, 3);
        dueCents(checks, "A149/100;", 1, 1);
        dueCents(checks, "A150/100;", 1, 2);
        dueCents(checks, "A249/100;", 1, 2);
        dueCents(checks, "A250/100;", 1, 3);
        // 9999 units are a PER of 9999, one cent; 4999 more are less than half of one, 5000 are more
        dueCents(checks, "A1/9999;", 9999, 1);
        dueCents(checks, "A1/9999;", 14998, 1);
        dueCents(checks, "A1/9999;", 14999, 2);
    }

    private static void eachLineIsRoundedOnce(Checks checks) {
        // Three half cents of one kind are 1.5; of three kinds they are one cent each.
        checks.dueLine(billed("A1/2;", 0, 1, 1, 1), 0, 0, 0, 3, 3, 2);
        PortBills bills = new PortBills();
        Checks.readText(bills, "A1/2;B1/2;F1/2;");
        bills.event(0, 0, 1);
        bills.event(0, 1, 1);
        bills.event(0, 5, 1);
        checks.due("bill(0) of three kinds", bills.bill(0), 3);
        checks.due("unpaid(0)", bills.unpaid(0), 3);
    }

    private static void leastIfSomeIsCharged(Checks checks) {
        dueCents(checks, "A1>10;", 9, 10);
        dueCents(checks, "A1>10;", 10, 10);
        dueCents(checks, "A1>10;", 11, 11);
        dueCents(checks, "A1-5>10;", 5, 0);
        dueCents(checks, "A1-5>10;", 6, 10);
        dueCents(checks, "A0>999999;", 1, 999999);
        dueCents(checks, "A1/9999>1;", 1, 1);
        dueCents(checks, "A1>0;", 1, 1);
        dueCents(checks, "A0>0;", 1, 0);
        // 9.5 is rounded to 10 before it is looked at, 9.4 to 9
        dueCents(checks, "A95/10>10;", 1, 10);
        dueCents(checks, "A95/10>9;", 1, 10);
        dueCents(checks, "A94/10>9;", 1, 9);
        dueCents(checks, "A999999>999999;", 1, 999999);
        dueCents(checks, "A999998>999999;", 1, 999999);
        dueCents(checks, "A999999>999998;", 1, 999999);
    }

    private static void discountsComeBeforeRoundingAndLeast(Checks checks) {
        PortBills bills = new PortBills();
        Checks.readText(bills, "A5/2>4;B5/2-1>4;");
        bills.discount(0, 0, 1, 3);
        bills.discount(0, 1, 1, 1);
        // 5 * 5 / 2 * 2 / 3 = 8.33, not 13 * 2 / 3 = 8.67; 5 * 1 / 2 * 2 / 3 = 1.67 is 4 at least.
        bills.event(0, 0, 5);
        bills.bill(0);
        bills.event(0, 0, 1);
        bills.event(0, 1, 9);
        bills.bill(0);
        bills.event(0, 1, 1);
        bills.bill(0);
        checks.dueLine(bills, 0, 0, 0, 5, 5, 8);
        checks.dueLine(bills, 1, 0, 0, 1, 1, 4);
        checks.dueLine(bills, 2, 0, 1, 9, 8, 4);
        checks.dueLine(bills, 3, 0, 1, 1, 0, 0);
    }

    private static void fallbackOfEveryKind(Checks checks) {
        for (int kind = 0; kind < 6; kind++) {
            for (int amount : new int[] {1, 2881, 50000}) {
                PortBills bills = new PortBills();
                int units = bills.event(3, kind, amount);
                bills.bill(3);
                checks.dueLine(bills, 0, 3, kind, units, units, 7L * units, -1, 0, 1, 7L * units);
            }
        }
    }

    private static void fallbackLessDiscounts(Checks checks) {
        for (int kind = 0; kind < 6; kind++) {
            PortBills bills = new PortBills();
            int units = bills.event(3, kind, 2881);
            bills.discount(3, kind, 1, 2);
            bills.bill(3);
            checks.dueLine(bills, 0, 3, kind, units, units, (7L * units + 1) / 2, -1, 0, 1);
        }
        PortBills nothing = new PortBills();
        nothing.event(0, 0, 1);
        nothing.discount(0, 0, 1, 1);
        nothing.bill(0);
        checks.dueLine(nothing, 0, 0, 0, 1, 1, 0, -1, 0, 1, 0);
    }

    private static void fallbackBesideATariff(Checks checks) {
        PortBills bills = new PortBills();
        Checks.readText(bills, "B7;D9-9>9;");
        for (int kind = 0; kind < 6; kind++) {
            bills.event(0, kind, 1);
        }
        bills.bill(0);
        for (int kind = 0; kind < 6; kind++) {
            boolean tariff = kind == 1 || kind == 3;
            int cents = kind == 3 ? 0 : 7;
            checks.dueLine(bills, kind, 0, kind, 1, kind == 3 ? 0 : 1, cents, -1, 0, tariff ? 0 : 1, cents);
        }
    }

    private static void aWrongTextLeavesTheFallback(Checks checks) {
        PortBills bills = new PortBills();
        Checks.readText(bills, "A9/5-1>99;A");
        bills.event(0, 0, 3);
        bills.bill(0);
        checks.dueLine(bills, 0, 0, 0, 3, 3, 21, -1, 0, 1, 21);
    }

    private static void tariffOfTheTimeOfTheBill(Checks checks) {
        PortBills bills = new PortBills();
        bills.event(0, 0, 10);
        Checks.readText(bills, "A1;");
        bills.bill(0);
        Checks.readText(bills, "A2;");
        bills.event(0, 0, 10);
        bills.bill(0);
        checks.dueLine(bills, 0, 0, 0, 10, 10, 10, -1, 0, 0, 10);
        checks.dueLine(bills, 1, 0, 0, 10, 10, 20, -1, 0, 0, 20);
    }

    private static void largestSums(Checks checks) {
        PortBills bills = new PortBills();
        Checks.readText(bills, "A999999;B999999/9999;");
        for (int i = 0; i < 3; i++) {
            bills.discount(0, 0, 0, 100);
            bills.discount(0, 1, 1, 100);
        }
        for (int kind = 0; kind < 2; kind++) {
            for (int i = 0; i < 100; i++) {
                bills.event(0, kind, 50000);
            }
            bills.bill(0);
        }
        checks.dueLine(bills, 0, 0, 0, 5000000, 5000000, 4999995000000L);
        // three times 99 / 100 leave 0.970299
        long want = new BigDecimal("0.970299").multiply(BigDecimal.valueOf(999999L * 5000000))
            .divide(BigDecimal.valueOf(9999), 0, RoundingMode.HALF_UP).longValueExact();
        checks.dueLine(bills, 1, 0, 1, 5000000, 5000000, want);
    }

    private static void threeWaitBehind198(PortBills bills) {
        Checks.fillLines(bills, 0, 198);
        bills.event(1, 0, 5);
        bills.event(1, 3, 5);
        bills.event(1, 3, 1441);
        bills.event(1, 5, 5);
    }

    private static void noRoomForAllOfThem(Checks checks) {
        Untouched full = new Untouched(checks, BillTest::threeWaitBehind198);
        full.dueIllegalState("bill(1) of 3 lines behind 198", bills -> bills.bill(1));
        full.dueIllegalArgument("bill(10) behind 198", bills -> bills.bill(10));
    }

    private static void justRoomForThem(Checks checks) {
        for (int more = 1; more <= 6; more++) {
            PortBills bills = new PortBills();
            Checks.fillLines(bills, 0, 200 - more);
            for (int kind = 0; kind < more; kind++) {
                bills.event(1, kind, 1);
            }
            int want = more;
            checks.dueAnswer("bill(1) of " + more + " lines behind " + (200 - more), () -> bills.bill(1), want);
            checks.due("count(2)", bills.count(2), 200);
            checks.due("count(1)", bills.count(1), 0);
            checks.due("line(199, 1)", bills.line(199, 1), more - 1);
        }
        for (int more = 1; more <= 6; more++) {
            PortBills bills = new PortBills();
            Checks.fillLines(bills, 0, 201 - more);
            for (int kind = 0; kind < more; kind++) {
                bills.event(1, kind, 1);
            }
            checks.dueIllegalState("bill(1) of " + more + " lines behind " + (201 - more), () -> bills.bill(1));
            checks.due("count(2)", bills.count(2), 201 - more);
            checks.due("count(1)", bills.count(1), more);
        }
    }

    private static void aSmallerBillHasRoomStill(Checks checks) {
        PortBills bills = new PortBills();
        threeWaitBehind198(bills);
        checks.dueIllegalState("bill(1) of 3 lines behind 198", () -> bills.bill(1));
        bills.event(2, 4, 1);
        bills.event(2, 5, 1);
        checks.dueAnswer("bill(2) of 2 lines behind 198", () -> bills.bill(2), 2);
        checks.due("count(2)", bills.count(2), 200);
        checks.dueAnswer("bill(3) of no lines behind 200", () -> bills.bill(3), 0);
        checks.dueIllegalState("bill(1) behind 200", () -> bills.bill(1));
        checks.dueIllegalArgument("bill(10) behind 200", () -> bills.bill(10));
        checks.due("count(1)", bills.count(1), 4);
        checks.dueAnswer("event behind 200 lines", () -> bills.event(1, 0, 1), 1);
    }

    private static void correctionsTakeRoomToo(Checks checks) {
        PortBills bills = new PortBills();
        Checks.fillLines(bills, 0, 100);
        for (int i = 0; i < 99; i++) {
            bills.correct(i, 1);
        }
        bills.event(5, 0, 1);
        bills.event(6, 0, 1);
        checks.dueAnswer("bill(5) behind 100 lines and 99 corrections", () -> bills.bill(5), 1);
        checks.dueIllegalState("bill(6) behind 101 lines and 99 corrections", () -> bills.bill(6));
        checks.due("count(26)", bills.count(26), 1);
    }
}
