/** Promise 3: read, with THE TEXT, READ and THE FIRST WRONG PLACE. */
public final class ReadTest {
    public static void main(String[] args) {
        Checks checks = new Checks("ReadTest");
        rightTexts(checks);
        wrongPlaces(checks);
        longTexts(checks);
        rowsReplaceOneAnother(checks);
        wrongTextChangesNothing(checks);
        readingUsesUpTheText(checks);
        checks.end();
    }

    private static void read(Checks checks, String text, int want) {
        checks.due("read() of " + text, Checks.readText(new PortBills(), text), want);
    }

    private static void rightTexts(Checks checks) {
        String[] oneRow = {"A0;", "F9;", "A000000;", "B999999;", "C1/1;", "C1/9999;", "C1/0001;", "C1/10;",
            "D1-0;", "D1-0000;", "D1-9999;", "E1>0;", "E1>999999;", "E1>000000;", "A1/2-3;", "A1/2>3;",
            "A1-2>3;", "A1/2-3>4;", "F999999/9999-9999>999999;"};
        for (String text : oneRow) {
            read(checks, text, 1);
        }
        read(checks, "A1;B2;", 2);
        read(checks, "A1;A1;A1;", 3);
        read(checks, "F1/2-3>4;E5;D6-7;", 3);
    }

    private static void wrongPlaces(Checks checks) {
        wrongAt(checks, "", 0);
        String[] atItsEnd = {"A", "A1", "A123456", "A1/", "A1/2", "A1/0", "A1/0000", "A1-", "A1-2", "A1>", "A1>2",
            "A1/2-3>4", "A1;B", "A1;B2", "A1;B2/0"};
        for (String text : atItsEnd) {
            wrongAt(checks, text, text.length());
        }
        String[] atStart = {"G1;", "@1;", "a1;", ";", "1;", "/1;", "~"};
        for (String text : atStart) {
            wrongAt(checks, text, 0);
        }
        String[] atRate = {"A;", "A/1;", "A-1;", "A>1;", "AA1;", "Ax1;", "A:1;"};
        for (String text : atRate) {
            wrongAt(checks, text, 1);
        }
        wrongAt(checks, "A1234567;", 7);
        wrongAt(checks, "A0000000;", 7);
        wrongAt(checks, "A1/;", 3);
        wrongAt(checks, "A1//2;", 3);
        wrongAt(checks, "A1/12345;", 7);
        wrongAt(checks, "A1/00001;", 7);
        wrongAt(checks, "A1/0;", 4);
        wrongAt(checks, "A1/000;", 6);
        wrongAt(checks, "A1/0000;", 7);
        wrongAt(checks, "A1/0-5;", 4);
        wrongAt(checks, "A1/0>5;", 4);
        wrongAt(checks, "A1/0x", 4);
        wrongAt(checks, "A1-;", 3);
        wrongAt(checks, "A1-12345;", 7);
        wrongAt(checks, "A1-2/3;", 4);
        wrongAt(checks, "A1-2-3;", 4);
        wrongAt(checks, "A1/2/3;", 4);
        wrongAt(checks, "A1>;", 3);
        wrongAt(checks, "A1>1234567;", 9);
        wrongAt(checks, "A1>2-3;", 4);
        wrongAt(checks, "A1>2/3;", 4);
        wrongAt(checks, "A1>2>3;", 4);
        wrongAt(checks, "A1;;", 3);
        wrongAt(checks, "A1;1;", 3);
        wrongAt(checks, "A1;B2;G3;", 6);
        wrongAt(checks, "A1B2;", 2);
        wrongAt(checks, "A1,", 2);
    }

    private static void wrongAt(Checks checks, String text, int place) {
        read(checks, text, -1 - place);
    }

    private static void longTexts(Checks checks) {
        read(checks, "A1;".repeat(40), 40);
        wrongAt(checks, "A1;".repeat(39) + "A12", 120);
        wrongAt(checks, "A1;".repeat(39) + "A1!", 119);
        wrongAt(checks, "A12345;".repeat(18), 120);
        wrongAt(checks, "A1;".repeat(39) + "A1/2;", 120);
    }

    private static void rowsReplaceOneAnother(Checks checks) {
        PortBills bills = new PortBills();
        Checks.readText(bills, "B1/2-3>4;A5;B6;");
        dueTariff(checks, bills, 1, 6, 1, 0, 0);
        dueTariff(checks, bills, 0, 5, 1, 0, 0);
        Checks.readText(bills, "B7-8;");
        dueTariff(checks, bills, 1, 7, 1, 8, 0);
        dueTariff(checks, bills, 0, 5, 1, 0, 0);
        Checks.readText(bills, "B9>3;B1/4;");
        dueTariff(checks, bills, 1, 1, 4, 0, 0);
        checks.due("count(3)", bills.count(3), 3);
    }

    private static void wrongTextChangesNothing(Checks checks) {
        PortBills bills = new PortBills();
        Checks.readText(bills, "A1/2-3>4;");
        checks.due("read() wrong in its second row", Checks.readText(bills, "A9;B8"), -6);
        dueTariff(checks, bills, 0, 1, 2, 3, 4);
        dueTariff(checks, bills, 1, -1, -1, -1, -1);
        checks.due("count(3)", bills.count(3), 1);
        Checks.readText(bills, "C5;");
        dueTariff(checks, bills, 0, 1, 2, 3, 4);
        dueTariff(checks, bills, 1, -1, -1, -1, -1);
        dueTariff(checks, bills, 2, 5, 1, 0, 0);
    }

    private static void readingUsesUpTheText(Checks checks) {
        PortBills bills = new PortBills();
        Checks.readText(bills, "A1;");
        checks.due("count(0) after a right text", bills.count(0), 0);
        checks.due("read() again", bills.read(), -1);
        Checks.readText(bills, "A1;B");
        checks.due("count(0) after a wrong text", bills.count(0), 0);
        checks.due("read() of what comes behind it", Checks.readText(bills, "B2;"), 1);
        dueTariff(checks, bills, 1, 2, 1, 0, 0);
    }

    private static void dueTariff(Checks checks, PortBills bills, int kind, int... parts) {
        for (int what = 0; what < parts.length; what++) {
            checks.due("tariff(" + kind + ", " + what + ")", bills.tariff(kind, what), parts[what]);
        }
    }
}
