/** Counts the answers that are not as due, and prints each. */
final class Checks {
    /** A call whose answer, or whose exception, is looked at. */
    interface Call {
        long answer();
    }

    private final String test;
    private int looked;
    private int wrong;

    Checks(String test) {
        this.test = test;
    }

    void due(String call, long got, long want) {
        looked++;
        if (got != want) {
            wrong++;
            System.out.println(test + ": " + call + " answered " + got + ", due is " + want);
        }
    }

    void due(String call, boolean got, boolean want) {
        due(call, got ? 1 : 0, want ? 1 : 0);
    }

    void dueText(String call, String got, String want) {
        looked++;
        if (!got.equals(want)) {
            wrong++;
            System.out.println(test + ": " + call + ": " + got + ", due is " + want);
        }
    }

    /** The class must be the very one: an exception of the machine is often a class below it. */
    void dueThrow(String call, Class<? extends RuntimeException> want, Call made) {
        looked++;
        String got;
        try {
            got = "answered " + made.answer();
        } catch (RuntimeException thrown) {
            if (thrown.getClass() == want) {
                return;
            }
            got = "threw " + thrown.getClass().getName();
        }
        wrong++;
        System.out.println(test + ": " + call + " " + got + ", due is " + want.getName());
    }

    /** As due, for a call that may throw though an answer is due. */
    void dueAnswer(String call, Call made, long want) {
        try {
            due(call, made.answer(), want);
        } catch (RuntimeException thrown) {
            looked++;
            wrong++;
            System.out.println(test + ": " + call + " threw " + thrown.getClass().getName() + ", due is " + want);
        }
    }

    void dueIllegalArgument(String call, Call made) {
        dueThrow(call, IllegalArgumentException.class, made);
    }

    void dueIllegalState(String call, Call made) {
        dueThrow(call, IllegalStateException.class, made);
    }

    void dueTariff(PortBills bills, int kind, int... parts) {
        for (int what = 0; what < parts.length; what++) {
            due("tariff(" + kind + ", " + what + ")", bills.tariff(kind, what), parts[what]);
        }
    }

    /** The first parts of line i, from what 0 on. */
    void dueLine(PortBills bills, int i, long... parts) {
        for (int what = 0; what < parts.length; what++) {
            due("line(" + i + ", " + what + ")", bills.line(i, what), parts[what]);
        }
    }

    void end() {
        System.out.println(test + ": " + looked + " looked at, " + wrong + " wrong");
        if (wrong != 0 || looked == 0) {
            System.exit(1);
        }
    }

    /** Gives a whole text of tariffs, sign by sign, and reads it. */
    static int readText(PortBills bills, String text) {
        giveText(bills, text);
        return bills.read();
    }

    static void giveText(PortBills bills, String text) {
        for (char sign : text.toCharArray()) {
            bills.sign(sign);
        }
    }

    /** Fills the lines up to the number wanted, six a bill at most, all of the call. */
    static void fillLines(PortBills bills, int call, int wanted) {
        for (int have = bills.count(2); have < wanted; have = bills.count(2)) {
            for (int kind = 0; kind < 6 && kind < wanted - have; kind++) {
                bills.event(call, kind, 1);
            }
            bills.bill(call);
        }
    }
}
