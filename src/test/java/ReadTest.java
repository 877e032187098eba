/** Promise 3: read, with THE TEXT, READ and THE FIRST WRONG PLACE. */
public final class ReadTest {
    private static final String DIGITS = "0123456789";
    private static final String LETTERS = "ABCDEF";

    public static void main(String[] args) {
        Checks checks = new Checks("ReadTest");
        whatMayStandWhere(checks);
        numbersOfAllLengths(checks);
        aDigitTooMany(checks);
        aPerOf0(checks);
        partsInTheirOrderOnly(checks);
        endsTooEarly(checks);
        emptyText(checks);
        theFirstOfSeveralWrongPlaces(checks);
        rowsAreCounted(checks);
        aKindToldTwice(checks);
        whatIsNotToldIsNotKept(checks);
        textsOf120Signs(checks);
        wrongTextsChangeNothing(checks);
        readingUsesUpTheText(checks);
        checks.end();
    }

    private static void read(Checks checks, String text, int want) {
        checks.due("read() of " + text, Checks.readText(new PortBills(), text), want);
    }

    private static void wrongAt(Checks checks, String text, int place) {
        read(checks, text, -1 - place);
    }

    private static void dueTariffOf(Checks checks, String text, int kind, int... parts) {
        PortBills bills = new PortBills();
        checks.due("read() of " + text, Checks.readText(bills, text), 1);
        checks.dueTariff(bills, kind, parts);
    }

    /** Every sign there is, behind every kind of beginning. */
    private static void whatMayStandWhere(Checks checks) {
        String[][] next = {
            {"", LETTERS},
            {"A", DIGITS},
            {"B1", DIGITS + "/->;"}, {"C12345", DIGITS + "/->;"}, {"D123456", "/->;"}, {"E000000", "/->;"},
            {"A1/", DIGITS},
            {"A1/0", DIGITS}, {"A1/000", DIGITS}, {"A1/0000", ""},
            {"A1/1", DIGITS + "->;"}, {"A1/001", DIGITS + "->;"}, {"A1/0001", "->;"}, {"A1/9999", "->;"},
            {"A1-", DIGITS}, {"A1/2-", DIGITS},
            {"A1-0", DIGITS + ">;"}, {"A1-123", DIGITS + ">;"}, {"A1-1234", ">;"}, {"A1-0000", ">;"}, {"A1/2-3", DIGITS + ">;"},
            {"A1>", DIGITS}, {"A1/2>", DIGITS}, {"A1-2>", DIGITS}, {"A1/2-3>", DIGITS},
            {"A1>0", DIGITS + ";"}, {"A1>12345", DIGITS + ";"}, {"A1>123456", ";"}, {"A1>000000", ";"},
            {"A1/2-3>4", DIGITS + ";"},
            {"A1;", LETTERS}, {"A1;B", DIGITS}, {"A1;A2", DIGITS + "/->;"}, {"A1/2-3>4;F5/0", DIGITS}};
        for (String[] each : next) {
            for (char sign = 33; sign <= 126; sign++) {
                String text = each[0] + sign;
                if (each[1].indexOf(sign) < 0) {
                    wrongAt(checks, text, each[0].length());
                } else if (sign == ';') {
                    read(checks, text, text.split(";").length);
                } else {
                    wrongAt(checks, text, text.length());
                }
            }
        }
    }

    private static void numbersOfAllLengths(Checks checks) {
        for (int digits = 1; digits <= 6; digits++) {
            String nines = "9".repeat(digits);
            String one = "0".repeat(digits - 1) + "1";
            String zeros = "0".repeat(digits);
            dueTariffOf(checks, "A" + nines + ";", 0, Integer.parseInt(nines), 1, 0, 0);
            dueTariffOf(checks, "B" + one + ";", 1, 1, 1, 0, 0);
            dueTariffOf(checks, "C" + zeros + ";", 2, 0, 1, 0, 0);
            dueTariffOf(checks, "D3>" + nines + ";", 3, 3, 1, 0, Integer.parseInt(nines));
            dueTariffOf(checks, "E3>" + one + ";", 4, 3, 1, 0, 1);
            dueTariffOf(checks, "F3>" + zeros + ";", 5, 3, 1, 0, 0);
        }
        for (int digits = 1; digits <= 4; digits++) {
            String nines = "9".repeat(digits);
            String one = "0".repeat(digits - 1) + "1";
            String zeros = "0".repeat(digits);
            dueTariffOf(checks, "A3/" + nines + ";", 0, 3, Integer.parseInt(nines), 0, 0);
            dueTariffOf(checks, "B3/" + one + ";", 1, 3, 1, 0, 0);
            dueTariffOf(checks, "C3-" + nines + ";", 2, 3, 1, Integer.parseInt(nines), 0);
            dueTariffOf(checks, "D3-" + one + ";", 3, 3, 1, 1, 0);
            dueTariffOf(checks, "E3-" + zeros + ";", 4, 3, 1, 0, 0);
        }
        dueTariffOf(checks, "F123456/7890-1234>567890;", 5, 123456, 7890, 1234, 567890);
    }

    private static void aDigitTooMany(Checks checks) {
        wrongAt(checks, "A1234567;", 7);
        wrongAt(checks, "A1234567", 7);
        wrongAt(checks, "A0000001;", 7);
        wrongAt(checks, "A12345678;", 7);
        wrongAt(checks, "A1/12345;", 7);
        wrongAt(checks, "A1/12345", 7);
        wrongAt(checks, "A1/00001;", 7);
        wrongAt(checks, "A1-12345;", 7);
        wrongAt(checks, "A1-00000;", 7);
        wrongAt(checks, "A1>1234567;", 9);
        wrongAt(checks, "A1>0000000;", 9);
        wrongAt(checks, "A1/1234-1234>1234567;", 19);
    }

    private static void aPerOf0(Checks checks) {
        for (String behind : new String[] {";", "-1;", ">1;", "-1>1;", "/1;", "x", "A1;"}) {
            wrongAt(checks, "A1/0" + behind, 4);
            wrongAt(checks, "A1/00" + behind, 5);
            wrongAt(checks, "A1/000" + behind, 6);
            wrongAt(checks, "A1/0000" + behind, 7);
            wrongAt(checks, "B7;A1/0" + behind, 7);
        }
        wrongAt(checks, "A1/00000;", 7);
        wrongAt(checks, "A1/0", 4);
        wrongAt(checks, "A1/0000", 7);
        dueTariffOf(checks, "A1/0001;", 0, 1, 1, 0, 0);
        dueTariffOf(checks, "A1/01;", 0, 1, 1, 0, 0);
        dueTariffOf(checks, "A1/10;", 0, 1, 10, 0, 0);
    }

    private static void partsInTheirOrderOnly(Checks checks) {
        dueTariffOf(checks, "A1;", 0, 1, 1, 0, 0);
        dueTariffOf(checks, "A1/2;", 0, 1, 2, 0, 0);
        dueTariffOf(checks, "A1-3;", 0, 1, 1, 3, 0);
        dueTariffOf(checks, "A1>4;", 0, 1, 1, 0, 4);
        dueTariffOf(checks, "A1/2-3;", 0, 1, 2, 3, 0);
        dueTariffOf(checks, "A1/2>4;", 0, 1, 2, 0, 4);
        dueTariffOf(checks, "A1-3>4;", 0, 1, 1, 3, 4);
        dueTariffOf(checks, "A1/2-3>4;", 0, 1, 2, 3, 4);
        for (String text : new String[] {"A1-2/3;", "A1-2-3;", "A1/2/3;", "A1>2-3;", "A1>2/3;", "A1>2>3;"}) {
            wrongAt(checks, text, 4);
        }
        for (String text : new String[] {"A1//2;", "A1/-2;", "A1/>2;", "A1/;", "A1--2;", "A1->2;", "A1-;", "A1>>2;", "A1>;"}) {
            wrongAt(checks, text, 3);
        }
        for (String text : new String[] {"A;", "A/1;", "A-1;", "A>1;", "AA1;"}) {
            wrongAt(checks, text, 1);
        }
    }

    private static void endsTooEarly(Checks checks) {
        String whole = "A123456/7890-1234>567890;F1;C2>3;";
        for (int length = 0; length < whole.length(); length++) {
            String text = whole.substring(0, length);
            if (!text.endsWith(";")) {
                wrongAt(checks, text, length);
            }
        }
        read(checks, whole, 3);
    }

    private static void emptyText(Checks checks) {
        wrongAt(checks, "", 0);
        PortBills bills = new PortBills();
        Checks.readText(bills, "A1;");
        checks.due("read() of nothing behind a right text", bills.read(), -1);
        checks.due("read() of nothing again", bills.read(), -1);
        checks.dueTariff(bills, 0, 1, 1, 0, 0);
        wrongAt(checks, ";", 0);
        wrongAt(checks, "A1;;", 3);
    }

    private static void theFirstOfSeveralWrongPlaces(Checks checks) {
        wrongAt(checks, "G1;H1;", 0);
        wrongAt(checks, "A1;G1;H", 3);
        wrongAt(checks, "A1/0;A1234567;", 4);
        wrongAt(checks, "A1234567/0;", 7);
        wrongAt(checks, "A1;B2;C;D", 7);
        wrongAt(checks, "xx", 0);
    }

    private static void rowsAreCounted(Checks checks) {
        read(checks, "F9;", 1);
        read(checks, "A1;B2;", 2);
        read(checks, "F1/2-3>4;E5;D6-7;", 3);
        read(checks, "A1;B1;C1;D1;E1;F1;A2;", 7);
    }

    private static void aKindToldTwice(Checks checks) {
        PortBills bills = new PortBills();
        checks.due("read() of B twice", Checks.readText(bills, "B1/2-3>4;A5;B6>7;"), 3);
        checks.dueTariff(bills, 1, 6, 1, 0, 7);
        checks.dueTariff(bills, 0, 5, 1, 0, 0);
        checks.due("count(3)", bills.count(3), 3);
        checks.due("read() of B three times", Checks.readText(bills, "B9;B9;B8/7-6>5;"), 3);
        checks.dueTariff(bills, 1, 8, 7, 6, 5);
    }

    private static void whatIsNotToldIsNotKept(Checks checks) {
        PortBills bills = new PortBills();
        Checks.readText(bills, "B1/2-3>4;A5/6-7>8;");
        Checks.readText(bills, "B9;");
        checks.dueTariff(bills, 1, 9, 1, 0, 0);
        checks.dueTariff(bills, 0, 5, 6, 7, 8);
        Checks.readText(bills, "A1-2;");
        checks.dueTariff(bills, 0, 1, 1, 2, 0);
        checks.due("count(3)", bills.count(3), 3);
    }

    private static void textsOf120Signs(Checks checks) {
        String most = "A123456/7890-1234>567890;".repeat(4);
        read(checks, "A1;".repeat(40), 40);
        read(checks, most + "B123456/7890-12>345;", 5);
        wrongAt(checks, "A1;".repeat(39) + "A12", 120);
        wrongAt(checks, "A1;".repeat(39) + "A1/", 120);
        wrongAt(checks, "A1;".repeat(39) + "A1!", 119);
        wrongAt(checks, "A1;".repeat(39) + "A;;", 118);
        wrongAt(checks, "A1;".repeat(39) + "G1;", 117);
        wrongAt(checks, most + "B123456/7890-12>3456", 120);
        wrongAt(checks, most + "B123456/7890-12>345x", 119);
        wrongAt(checks, "1".repeat(120), 0);
        // The sign that would end it is the 121st, which does not come.
        wrongAt(checks, "A1;".repeat(39) + "A12;", 120);
        PortBills bills = new PortBills();
        Checks.readText(bills, "A1;".repeat(39) + "F7;");
        checks.dueTariff(bills, 0, 1, 1, 0, 0);
        checks.dueTariff(bills, 5, 7, 1, 0, 0);
    }

    private static void wrongTextsChangeNothing(Checks checks) {
        String[] wrong = {"", "A", "A9;B8", "A9;A8/0;", "B5/6-7>8;A1;x", "F1;E1;D1;C1;B1;A1;;", "A1234567;", "A9/9-9>9",
            "A9;".repeat(39) + "A99"};
        int[] places = {0, 1, 5, 7, 12, 18, 7, 8, 120};
        Untouched busy = new Untouched(checks, Untouched::busy);
        Untouched fresh = new Untouched(checks, bills -> { });
        for (int i = 0; i < wrong.length; i++) {
            String text = wrong[i];
            busy.due("read() of " + text, bills -> Checks.readText(bills, text), -1 - places[i]);
            fresh.due("read() of " + text, bills -> Checks.readText(bills, text), -1 - places[i]);
        }
        PortBills bills = new PortBills();
        Checks.readText(bills, "A1/2-3>4;");
        Checks.readText(bills, "A9;B8");
        Checks.readText(bills, "C5;");
        checks.dueTariff(bills, 0, 1, 2, 3, 4);
        checks.dueTariff(bills, 1, -1, -1, -1, -1);
        checks.dueTariff(bills, 2, 5, 1, 0, 0);
    }

    private static void readingUsesUpTheText(Checks checks) {
        PortBills bills = new PortBills();
        for (String text : new String[] {"A1;", "A1;B", "x", "A1/0;", ""}) {
            Checks.readText(bills, text);
            checks.due("count(0) after read() of " + text, bills.count(0), 0);
            checks.due("read() again", bills.read(), -1);
            checks.due("read() of what comes behind it", Checks.readText(bills, "B2;"), 1);
        }
        checks.dueTariff(bills, 1, 2, 1, 0, 0);
    }
}
