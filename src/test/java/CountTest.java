import java.util.Arrays;

/** Promise 14: count. */
public final class CountTest {
    public static void main(String[] args) {
        Checks checks = new Checks("CountTest");
        PortBills bills = new PortBills();
        Checks.readText(bills, "A1;F1;C1;");
        Checks.giveText(bills, "A1");
        bills.event(0, 0, 1);
        bills.event(0, 1, 1);
        bills.event(9, 5, 1);
        bills.bill(0);
        bills.bill(9);
        bills.correct(0, 99);
        bills.event(9, 5, 1);
        bills.event(9, 5, 1);
        bills.event(4, 5, 1);
        int[] want = new int[31];
        Arrays.fill(want, -1);
        Arrays.fill(want, 10, 30, 0);
        want[0] = 2;
        want[1] = 3;
        want[2] = 4;
        want[3] = 0b100101;
        want[10] = 3;
        want[19] = 1;
        want[24] = 1;
        want[29] = 2;
        for (int what = 0; what < want.length; what++) {
            checks.due("count(" + what + ")", bills.count(what), want[what]);
        }
        for (int what : new int[] {-1, -10, -20, 100, Integer.MIN_VALUE, Integer.MIN_VALUE + 15, Integer.MAX_VALUE}) {
            checks.due("count(" + what + ")", bills.count(what), -1);
        }
        everyKindHasItsBit(checks);
        checks.end();
    }

    private static void everyKindHasItsBit(Checks checks) {
        PortBills bills = new PortBills();
        for (int kind = 0; kind < 6; kind++) {
            Checks.readText(bills, (char) ('A' + kind) + "0;");
            checks.due("count(3) with tariffs up to " + kind, bills.count(3), (1 << kind + 1) - 1);
        }
        Checks.readText(bills, "A1;");
        checks.due("count(3) after one more for A", bills.count(3), 63);
    }
}
