/** Promises 1, 16 to 18 and 23: a new object, page, length, count, mean. */
public final class PageTest {
    public static void main(String[] args) {
        Check check = new Check();
        aNewPrinterIsEmpty(check);
        printersAreApart(check);
        aFullLineLosesCharacters(check);
        aLostBlankUnshifts(check);
        theFirstLineGoes(check);
        badPlacesAreRefused(check);
        countsAllThatThereIs(check);
        meanIsOfAllLines(check);
        check.end();
    }

    private static void aNewPrinterIsEmpty(Check check) {
        TapePrinter printer = new TapePrinter();
        check.same("counts", Check.counts(printer), 1, 0, 0, 0, 0, 0, 0, 0, 0, 0, 0);
        check.same("the line", printer.length(0), 0);
        check.same("mean", printer.mean(), 0.0);
        check.same("wrong", printer.wrong(), 0);
        check.same("idle", printer.idle(), 0);
        for (int place = 0; place < 16; place++) {
            for (int code : new int[] {0, 10, 21, 31}) {
                check.same("a good line", printer.receive(code), code);
            }
            check.same("a table of zeros", printer.setLine(place, 0, 0), 0);
        }
    }

    private static void printersAreApart(Check check) {
        TapePrinter one = new TapePrinter();
        TapePrinter other = new TapePrinter();
        long before = other.digest();
        Check.punchAll(one, 27, 1);
        one.run(2);
        one.setLine(3, 4, 5);
        one.setPlay(1);
        one.setUnshift(true);
        check.same("the other one stays", other.digest(), before);
    }

    private static void aFullLineLosesCharacters(Check check) {
        TapePrinter printer = new TapePrinter();
        Check.receiveMany(printer, 39, 1);
        printer.receive(4);
        check.same("length", printer.length(0), 40);
        check.same("the last character", printer.page(0, 39), 53);
        check.same("none is lost", printer.count(8), 0);
        Check.receiveAll(printer, 3, 4, 0, 8, 27, 31);
        check.same("length", printer.length(0), 40);
        check.same("the last character", printer.page(0, 39), 53);
        check.same("two are lost", printer.count(8), 2);
        check.same("the bell rang", printer.count(10), 1);
        Check.receiveAll(printer, 2, 3);
        check.same("a new line has room", Check.line(printer, 1), 2);
        check.same("no more is lost", printer.count(8), 2);
    }

    private static void aLostBlankUnshifts(Check check) {
        TapePrinter printer = new TapePrinter();
        Check.receiveMany(printer, 40, 1);
        Check.receiveAll(printer, 27, 4);
        check.same("a lost blank keeps figures", printer.count(2), 1);
        printer.setUnshift(true);
        printer.receive(4);
        check.same("a lost blank unshifts", printer.count(2), 0);
        check.same("both are lost", printer.count(8), 2);
        Check.receiveAll(printer, 27, 1);
        check.same("a lost figure shifts nothing", printer.count(2), 1);
    }

    private static void theFirstLineGoes(Check check) {
        TapePrinter stair = stair();
        check.same("lines", stair.count(0), 20);
        check.same("characters", stair.count(1), 210);
        // A printer of its own for each, as one object answers for 512 calls alone.
        for (int more = 1; more <= 45; more++) {
            TapePrinter printer = stair();
            for (int k = 1; k <= more; k++) {
                printer.receive(2);
                check.same("a new line is empty", printer.length(19), 0);
                printer.receive(3);
            }
            check.same("lines", printer.count(0), 20);
            int sum = 0;
            for (int line = 0; line < 20; line++) {
                int due = line + more < 20 ? line + more + 1 : 1;
                sum += due;
                check.same("length of line " + line, printer.length(line), due);
                check.same("a character", printer.page(line, 0), line + more < 20 ? 1 : 2);
            }
            check.same("none is lost", printer.count(8), 0);
            check.same("characters", printer.count(1), sum);
            check.same("mean", printer.mean(), sum / 20.0);
        }
    }

    /** 20 lines of 1 to 20 characters. */
    private static TapePrinter stair() {
        TapePrinter printer = new TapePrinter();
        for (int k = 0; k < 20; k++) {
            printer.punch(1);
        }
        for (int line = 0; line < 20; line++) {
            if (line > 0) {
                printer.receive(2);
            }
            printer.wind(0);
            printer.run(line + 1);
        }
        return printer;
    }

    private static void badPlacesAreRefused(Check check) {
        TapePrinter printer = new TapePrinter();
        check.outOfBounds("page(0, 0) when empty", printer, () -> printer.page(0, 0));
        Check.receiveAll(printer, 1, 3, 2, 5);
        check.same("page", printer.page(0, 1), 2);
        check.same("page", printer.page(1, 0), 3);
        for (int bad : new int[] {-1, 2, 19, 20, Integer.MIN_VALUE, Integer.MAX_VALUE}) {
            check.outOfBounds("page(" + bad + ", 0)", printer, () -> printer.page(bad, 0));
            check.outOfBounds("page(0, " + bad + ")", printer, () -> printer.page(0, bad));
            check.outOfBounds("length(" + bad + ")", printer, () -> printer.length(bad));
        }
        check.outOfBounds("page(1, 1)", printer, () -> printer.page(1, 1));
        Check.receiveMany(printer, 30, 2);
        Check.receiveMany(printer, 45, 1);
        for (int bad : new int[] {-1, 20, 21}) {
            check.outOfBounds("page(" + bad + ", 0) of 20", printer, () -> printer.page(bad, 0));
            check.outOfBounds("length(" + bad + ") of 20", printer, () -> printer.length(bad));
        }
        check.outOfBounds("page(19, 40)", printer, () -> printer.page(19, 40));
        check.outOfBounds("page(18, 0)", printer, () -> printer.page(18, 0));
    }

    private static void countsAllThatThereIs(Check check) {
        TapePrinter printer = new TapePrinter();
        printer.setPlay(7);
        printer.setUnshift(true);
        printer.setLine(2, 8, 0);
        Check.punchAll(printer, 8, 8, 2, 27, 1);
        printer.run(4);
        check.same("counts", Check.counts(printer), 1, 1, 1, 7, 5, 4, 4, 1, 0, 1, 2);
        Check.receiveMany(printer, 42, 7);
        check.same("counts", Check.counts(printer), 1, 40, 1, 7, 5, 4, 46, 3, 3, 1, 2);
        for (int bad : new int[] {-1, 11, 12, Integer.MIN_VALUE, Integer.MAX_VALUE}) {
            check.outOfBounds("count(" + bad + ")", printer, () -> printer.count(bad));
        }
    }

    private static void meanIsOfAllLines(Check check) {
        TapePrinter printer = new TapePrinter();
        Check.receiveAll(printer, 1, 3, 5, 4);
        check.same("of one line", printer.mean(), 4.0);
        printer.receive(2);
        check.same("of two lines", printer.mean(), 2.0);
        printer.receive(2);
        check.same("of three lines", printer.mean(), 4.0 / 3);
        printer.receive(1);
        check.same("of three lines", printer.mean(), 5.0 / 3);
    }
}
