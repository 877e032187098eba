import java.util.ArrayList;
import java.util.List;

/**
 * Looks whether a call that throws or is refused changed nothing: of two objects that are made alike one has the call
 * besides, and all that can be asked of them then, and what later calls make of them, must be the same.
 * An object answers 512 calls only, so each look has objects of its own: 300 calls to make one and 200 to look at it.
 */
final class Untouched {
    /** Calls on a new object: 300 at most. */
    interface Steps {
        void on(PortBills bills);
    }

    interface Asked {
        long of(PortBills bills);
    }

    private interface Look {
        void at(PortBills bills, List<String> seen);
    }

    private static final int MOST_LINES = 200;
    private static final int LINES_A_LOOK = 20;

    private final Checks checks;
    private final Steps made;
    private final List<Look> looks = new ArrayList<>();
    private final List<String> before;

    Untouched(Checks checks, Steps made) {
        this.checks = checks;
        this.made = made;
        looks.add(Untouched::countsAndSums);
        looks.add((bills, seen) -> textThen(bills, seen, ""));
        looks.add((bills, seen) -> textThen(bills, seen, ";"));
        looks.add(Untouched::billsThen);
        looks.add(Untouched::eventsAndBillsThen);
        looks.add((bills, seen) -> discountsThen(bills, seen, 0, 5));
        looks.add((bills, seen) -> discountsThen(bills, seen, 5, 10));
        for (int from = 0; from < made().count(2); from += LINES_A_LOOK) {
            int first = from;
            looks.add((bills, seen) -> lines(bills, seen, first));
        }
        before = seenAfter(bills -> 0);
    }

    /** A state with something of all that an object holds, but for an open text. */
    static void busy(PortBills bills) {
        Checks.readText(bills, "A15/2-3>40;C9>2;");
        bills.discount(0, 0, 1, 3);
        bills.discount(9, 5, 2, 7);
        bills.discount(9, 5, 1, 2);
        bills.event(0, 0, 11);
        bills.event(0, 5, 3);
        bills.bill(0);
        bills.event(9, 2, 130);
        bills.event(9, 5, 8);
        bills.bill(9);
        bills.correct(0, 77);
        bills.correct(2, 1);
        bills.dispute(2, true);
        bills.pay(0, 50);
        bills.pay(4, 6);
        bills.event(0, 0, 9);
        bills.event(0, 0, 4);
        bills.event(9, 5, 2);
        bills.event(3, 1, 1);
    }

    static void busyWithText(PortBills bills) {
        busy(bills);
        Checks.giveText(bills, "C8;B12/3");
    }

    void dueThrow(String call, Class<? extends RuntimeException> want, Asked refused) {
        checks.dueThrow(call, want, () -> refused.of(made()));
        dueSame(call, refused);
    }

    void dueIllegalArgument(String call, Asked refused) {
        dueThrow(call, IllegalArgumentException.class, refused);
    }

    void dueIllegalState(String call, Asked refused) {
        dueThrow(call, IllegalStateException.class, refused);
    }

    void due(String call, Asked refused, long want) {
        checks.dueAnswer(call, () -> refused.of(made()), want);
        dueSame(call, refused);
    }

    private PortBills made() {
        PortBills bills = new PortBills();
        made.on(bills);
        return bills;
    }

    private void dueSame(String call, Asked refused) {
        List<String> after = seenAfter(refused);
        for (int i = 0; i < before.size() && i < after.size(); i++) {
            if (!before.get(i).equals(after.get(i))) {
                checks.dueText("after " + call, after.get(i), before.get(i));
                return;
            }
        }
        checks.due("answers after " + call, after.size(), before.size());
    }

    private List<String> seenAfter(Asked refused) {
        List<String> seen = new ArrayList<>();
        for (Look look : looks) {
            PortBills bills = made();
            ask(bills, new ArrayList<>(), "", refused);
            look.at(bills, seen);
        }
        return seen;
    }

    private static void ask(PortBills bills, List<String> seen, String call, Asked asked) {
        try {
            seen.add(call + " " + asked.of(bills));
        } catch (RuntimeException thrown) {
            seen.add(call + " " + thrown.getClass().getName());
        }
    }

    private static void countsAndSums(PortBills bills, List<String> seen) {
        for (int what = 0; what < 30; what++) {
            int asked = what;
            ask(bills, seen, "count(" + what + ")", b -> b.count(asked));
        }
        tariffs(bills, seen);
        for (int call = 0; call < 10; call++) {
            int asked = call;
            ask(bills, seen, "unpaid(" + call + ")", b -> b.unpaid(asked));
        }
    }

    private static void tariffs(PortBills bills, List<String> seen) {
        for (int i = 0; i < 24; i++) {
            int kind = i / 4;
            int what = i % 4;
            ask(bills, seen, "tariff(" + kind + ", " + what + ")", b -> b.tariff(kind, what));
        }
    }

    private static void lines(PortBills bills, List<String> seen, int first) {
        for (int i = first; i < first + LINES_A_LOOK && i < MOST_LINES; i++) {
            for (int what = 0; what < 9; what++) {
                line(bills, seen, i, what);
            }
        }
    }

    private static void line(PortBills bills, List<String> seen, int i, int what) {
        ask(bills, seen, "line(" + i + ", " + what + ")", b -> b.line(i, what));
    }

    private static void textThen(PortBills bills, List<String> seen, String more) {
        Checks.giveText(bills, more);
        ask(bills, seen, "read() behind " + more, PortBills::read);
        tariffs(bills, seen);
    }

    private static void billsThen(PortBills bills, List<String> seen) {
        int first = bills.count(2);
        for (int call = 0; call < 10; call++) {
            int asked = call;
            ask(bills, seen, "bill(" + call + ")", b -> b.bill(asked));
        }
        int end = bills.count(2);
        for (int i = first; i < end; i++) {
            for (int what = 2; what <= 4; what++) {
                line(bills, seen, i, what);
            }
        }
    }

    // The sums are large, so that each discount is seen in them.
    private static void eventsAndBillsThen(PortBills bills, List<String> seen) {
        for (int call = 0; call < 10; call++) {
            int of = call;
            for (int kind = 0; kind < 6; kind++) {
                int asked = kind;
                ask(bills, seen, "event(" + call + ", " + kind + ", 50000)", b -> b.event(of, asked, 50000));
            }
            int first = bills.count(2);
            ask(bills, seen, "bill(" + call + ")", b -> b.bill(of));
            for (int i = first; i < first + 6; i++) {
                line(bills, seen, i, 4);
            }
        }
    }

    private static void discountsThen(PortBills bills, List<String> seen, int fromCall, int toCall) {
        for (int call = fromCall; call < toCall; call++) {
            for (int kind = 0; kind < 6; kind++) {
                int more = 0;
                while (more < 4 && bills.discount(call, kind, 0, 1)) {
                    more++;
                }
                seen.add("discounts more of " + call + ", " + kind + ": " + more);
            }
        }
    }
}
