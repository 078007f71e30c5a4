/** Promise 24: digest, by a checksum that the test builds itself. */
public final class DigestTest {
    private long d;

    public static void main(String[] args) {
        Check check = new Check();
        aNewPrinter(check);
        aUsedPrinter(check);
        allOfItCounts(check);
        check.end();
    }

    private void take(int... numbers) {
        for (int x : numbers) {
            d = d * 31 + x;
        }
    }

    private static void aNewPrinter(Check check) {
        DigestTest due = new DigestTest();
        due.d = 1373;
        due.take(1, 0, 0, 0, 0, 0, 0, 0, 0, 0, 0);
        due.take(new int[32]);
        due.take(0);
        check.same("a new one", new TapePrinter().digest(), due.d);
    }

    private static void aUsedPrinter(Check check) {
        TapePrinter printer = new TapePrinter();
        printer.setLine(0, -9, 1);
        printer.setLine(15, 5, 31);
        printer.setPlay(9);
        printer.setUnshift(true);
        Check.punchAll(printer, 27, 1, 2, 8, 5);
        printer.receive(0);
        printer.run(4);
        printer.receive(30);
        DigestTest due = new DigestTest();
        due.d = 1373;
        // The first code, 0, is garbled to 1: a letter.
        due.take(2, 3, 0, 9, 5, 4, 6, 1, 0, 1, 1);
        due.take(-9, 1);
        due.take(new int[28]);
        due.take(5, 31);
        due.take(2, 1, 27);
        due.take(1, 26);
        due.take(27, 1, 2, 8, 5);
        check.same("a used one", printer.digest(), due.d);
        check.same("once more", printer.digest(), due.d);
    }

    private static void allOfItCounts(Check check) {
        TapePrinter printer = new TapePrinter();
        long before = printer.digest();
        for (int step = 0; step < 9; step++) {
            change(printer, step);
            long now = printer.digest();
            check.tell(now != before, "step " + step + " does not show in the digest");
            before = now;
        }
    }

    private static void change(TapePrinter printer, int step) {
        switch (step) {
            case 0 -> printer.setPlay(1);
            case 1 -> printer.setUnshift(true);
            case 2 -> printer.setLine(7, 1, 0);
            case 3 -> printer.setLine(7, 1, 1);
            case 4 -> printer.receive(27);
            case 5 -> printer.receive(8);
            case 6 -> printer.punch(1);
            case 7 -> printer.wind(1);
            default -> printer.rub(0);
        }
    }
}
