/** Promise 4: tariff. */
public final class TariffTest {
    public static void main(String[] args) {
        Checks checks = new Checks("TariffTest");
        allOfAKind(checks);
        noneWithoutATariff(checks);
        aTariffOf0IsOne(checks);
        noSuchKindOrWhat(checks);
        askingChangesNothing(checks);
        checks.end();
    }

    private static void allOfAKind(Checks checks) {
        PortBills bills = new PortBills();
        Checks.readText(bills, "A12/34-56>78;F999999/9999-9999>999999;C0;");
        checks.dueTariff(bills, 0, 12, 34, 56, 78);
        checks.dueTariff(bills, 1, -1, -1, -1, -1);
        checks.dueTariff(bills, 2, 0, 1, 0, 0);
        checks.dueTariff(bills, 3, -1, -1, -1, -1);
        checks.dueTariff(bills, 4, -1, -1, -1, -1);
        checks.dueTariff(bills, 5, 999999, 9999, 9999, 999999);
    }

    private static void noneWithoutATariff(Checks checks) {
        for (int with = 0; with < 6; with++) {
            PortBills bills = new PortBills();
            Checks.readText(bills, (char) ('A' + with) + "1/2-3>4;");
            for (int kind = 0; kind < 6; kind++) {
                if (kind == with) {
                    checks.dueTariff(bills, kind, 1, 2, 3, 4);
                } else {
                    checks.dueTariff(bills, kind, -1, -1, -1, -1);
                }
            }
        }
    }

    private static void aTariffOf0IsOne(Checks checks) {
        PortBills bills = new PortBills();
        for (int kind = 0; kind < 6; kind++) {
            Checks.readText(bills, (char) ('A' + kind) + "0-0>0;");
            checks.dueTariff(bills, kind, 0, 1, 0, 0);
        }
    }

    private static void noSuchKindOrWhat(Checks checks) {
        int[] noKinds = {-1, 6, 7, Integer.MIN_VALUE, Integer.MAX_VALUE};
        int[] noWhats = {-1, 4, 5, Integer.MIN_VALUE, Integer.MAX_VALUE};
        // Kind 0 has a tariff there, 5 has none: both are asked for a wrong what.
        Untouched busy = new Untouched(checks, Untouched::busyWithText);
        for (int kind : noKinds) {
            for (int what : new int[] {0, 3, -1, 4}) {
                busy.dueIllegalArgument("tariff(" + kind + ", " + what + ")", bills -> bills.tariff(kind, what));
            }
        }
        for (int what : noWhats) {
            for (int kind : new int[] {0, 5}) {
                busy.dueIllegalArgument("tariff(" + kind + ", " + what + ")", bills -> bills.tariff(kind, what));
            }
        }
    }

    private static void askingChangesNothing(Checks checks) {
        Untouched busy = new Untouched(checks, Untouched::busyWithText);
        busy.due("tariff(0, 3)", bills -> bills.tariff(0, 3), 40);
        busy.due("tariff(5, 0)", bills -> bills.tariff(5, 0), -1);
    }
}
