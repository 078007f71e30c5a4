/** Promises 20 to 22: wrong, idle, prints. */
public final class AheadTest {
    public static void main(String[] args) {
        Check check = new Check();
        wrongFromTheReaderOn(check);
        wrongByTheTurnAndThePlay(check);
        idleShifts(check);
        idleByTheBlanksOfNow(check);
        idleIsOfTheTapeAlone(check);
        printsByTheShift(check);
        printsByTheBlanksOfNow(check);
        printsIsOfTheTapeAlone(check);
        check.end();
    }

    private static void wrongFromTheReaderOn(Check check) {
        TapePrinter printer = new TapePrinter();
        printer.setLine(0, 1, 0);
        printer.setLine(1, -1, 0);
        printer.setLine(2, 0, 4);
        check.same("without a tape", printer.wrong(), 0);
        Check.punchAll(printer, 1, 1, 1, 1);
        check.same("three are wrong", printer.wrong(), 3);
        printer.wind(3);
        check.same("one code comes, late", printer.wrong(), 1);
        printer.wind(4);
        check.same("none comes", printer.wrong(), 0);
        printer.wind(0);
        Check.punchAll(printer, 31, 0);
        printer.rub(1);
        check.same("31 that is early is read as 31", printer.wrong(), 2);
        printer.wind(5);
        check.same("0 that is late is read as 0", printer.wrong(), 0);
        check.same("nothing came", printer.count(6), 0);
        check.same("the reader stays", printer.count(5), 5);
    }

    private static void wrongByTheTurnAndThePlay(Check check) {
        TapePrinter printer = new TapePrinter();
        printer.setLine(15, 0, 1);
        printer.setLine(4, 3, 0);
        for (int k = 0; k < 40; k++) {
            printer.punch(1);
        }
        check.same("at 4, 15, 20, 31, 36", printer.wrong(), 5);
        printer.setPlay(3);
        check.same("at 15, 31", printer.wrong(), 2);
        printer.setPlay(2);
        Check.receiveMany(printer, 15, 0);
        check.same("at 15, 20, 31, 36, 47, 52", printer.wrong(), 6);
        printer.run(1);
        check.same("at 20, 31, 36, 47, 52", printer.wrong(), 5);
        printer.wind(0);
        check.same("at 20, 31, 36, 47, 52", printer.wrong(), 5);
        long before = printer.digest();
        printer.wrong();
        check.same("wrong changes nothing", printer.digest(), before);
    }

    private static int idle(boolean unshifts, int... codes) {
        TapePrinter printer = new TapePrinter();
        printer.setUnshift(unshifts);
        Check.punchAll(printer, codes);
        return printer.idle();
    }

    private static void idleShifts(Check check) {
        check.same("none", idle(false), 0);
        check.same("no shift", idle(false, 1, 4, 2, 8, 0, 30), 0);
        check.same("a shift that serves", idle(false, 27, 1), 0);
        check.same("letters already", idle(false, 31, 1), 1);
        check.same("figures already", idle(false, 27, 1, 27, 1), 1);
        check.same("to letters and served", idle(false, 27, 1, 31, 1), 0);
        check.same("at the end", idle(false, 1, 27), 1);
        check.same("to letters at the end", idle(false, 27, 1, 31), 1);
        check.same("ahead of a shift", idle(false, 27, 31, 1), 1);
        check.same("ahead of the same shift", idle(false, 27, 27, 1), 2);
        check.same("ahead of a new line", idle(false, 27, 2, 1), 1);
        check.same("behind a new line", idle(false, 27, 1, 2, 31, 1), 1);
        check.same("figures anew behind a new line", idle(false, 27, 1, 2, 27, 1), 0);
        check.same("nothing, a bell and a blank do not use it", idle(false, 27, 0, 8, 4), 1);
        check.same("nor do they end it", idle(false, 27, 0, 8, 4, 1), 0);
        check.same("all idle", idle(false, 31, 31, 27, 31), 4);
        check.same("each counts once", idle(false, 31, 31), 2);
    }

    private static void idleByTheBlanksOfNow(Check check) {
        check.same("a blank ends it", idle(true, 27, 4, 1), 1);
        check.same("a blank does not", idle(false, 27, 4, 1), 0);
        check.same("letters behind a blank", idle(true, 27, 1, 4, 31, 1), 1);
        check.same("figures still behind a blank", idle(false, 27, 1, 4, 31, 1), 0);
        check.same("figures anew behind a blank", idle(true, 27, 1, 4, 27, 1), 0);
        check.same("figures already behind a blank", idle(false, 27, 1, 4, 27, 1), 1);
        TapePrinter printer = new TapePrinter();
        Check.punchAll(printer, 27, 4, 1);
        printer.setUnshift(true);
        check.same("now it ends it", printer.idle(), 1);
        printer.setUnshift(false);
        check.same("now it does not", printer.idle(), 0);
    }

    private static void idleIsOfTheTapeAlone(Check check) {
        TapePrinter printer = new TapePrinter();
        for (int place = 0; place < 16; place++) {
            printer.setLine(place, 9, 31);
        }
        Check.punchAll(printer, 27, 1, 31, 3);
        printer.receive(0);
        printer.receive(4 ^ 27);
        printer.wind(3);
        check.same("all serve", printer.idle(), 0);
        printer.rub(1);
        check.same("27 31 31, then a letter", printer.idle(), 3);
        printer.rub(0);
        check.same("31 31 31, then a letter", printer.idle(), 3);
        long before = printer.digest();
        printer.idle();
        check.same("idle changes nothing", printer.digest(), before);
    }

    private static int[] printed(TapePrinter printer) {
        int[] characters = new int[printer.count(4)];
        for (int place = 0; place < characters.length; place++) {
            characters[place] = printer.prints(place);
        }
        return characters;
    }

    private static void printsByTheShift(Check check) {
        TapePrinter printer = new TapePrinter();
        check.outOfBounds("prints(0) without a tape", printer, () -> printer.prints(0));
        Check.punchAll(printer, 1, 27, 1, 4, 30, 0, 8, 3, 31, 3, 27, 2, 30);
        check.same("prints", printed(printer), 1, 0, 27, 53, 52, 0, 0, 28, 0, 2, 0, 54, 26);
        for (int bad : new int[] {-1, 13, 14, 120, Integer.MIN_VALUE, Integer.MAX_VALUE}) {
            check.outOfBounds("prints(" + bad + ")", printer, () -> printer.prints(bad));
        }
        printer.rub(1);
        check.same("without its first shift", printed(printer), 1, 0, 1, 53, 26, 0, 0, 2, 0, 2, 0, 54, 26);
    }

    private static void printsByTheBlanksOfNow(Check check) {
        TapePrinter printer = new TapePrinter();
        Check.punchAll(printer, 27, 1, 4, 1);
        check.same("a blank keeps figures", printer.prints(3), 27);
        printer.setUnshift(true);
        check.same("a blank unshifts", printer.prints(3), 1);
        check.same("behind it alone", printer.prints(1), 27);
        printer.setUnshift(false);
        check.same("a blank keeps figures", printer.prints(3), 27);
    }

    private static void printsIsOfTheTapeAlone(Check check) {
        TapePrinter printer = new TapePrinter();
        printer.receive(27);
        for (int place = 0; place < 16; place++) {
            printer.setLine(place, -9, 31);
        }
        for (int k = 0; k < 120; k++) {
            printer.punch(1);
        }
        printer.wind(60);
        long before = printer.digest();
        check.same("the first one", printer.prints(0), 1);
        check.same("the one behind the reader", printer.prints(60), 1);
        check.same("the last one", printer.prints(119), 1);
        check.same("prints changes nothing", printer.digest(), before);
    }
}
