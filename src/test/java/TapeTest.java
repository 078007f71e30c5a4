/** Promises 10 to 15: punch, type, rub, run, wind, tape. */
public final class TapeTest {
    private static final int[] BAD_PLACES = {-1, 4, 5, 119, 120, Integer.MIN_VALUE, Integer.MAX_VALUE};

    public static void main(String[] args) {
        Check check = new Check();
        punchesUpToAFullTape(check);
        typesTheShiftsThatAreNeeded(check);
        typesByTheBlanksOfNow(check);
        typesUpToAFullTape(check);
        badCharactersAreRefused(check);
        rubsOut(check);
        runsFromTheReader(check);
        runsOverTheLine(check);
        winds(check);
        tellsTheTape(check);
        check.end();
    }

    private static void punchesUpToAFullTape(Check check) {
        TapePrinter printer = new TapePrinter();
        for (int bad : new int[] {-1, 32, Integer.MIN_VALUE, Integer.MAX_VALUE}) {
            check.outOfBounds("punch(" + bad + ")", printer, () -> printer.punch(bad));
        }
        for (int k = 0; k < 120; k++) {
            check.same("punch " + k, printer.punch(k % 32), k + 1);
        }
        for (int k = 0; k < 120; k++) {
            check.same("tape " + k, printer.tape(k), k % 32);
        }
        check.badState("punch on a full tape", printer, () -> printer.punch(0));
        check.outOfBounds("punch(32) on a full tape", printer, () -> printer.punch(32));
        check.outOfBounds("punch(-1) on a full tape", printer, () -> printer.punch(-1));
        check.same("nothing is printed", printer.count(6), 0);
    }

    private static void typesTheShiftsThatAreNeeded(Check check) {
        TapePrinter printer = new TapePrinter();
        check.same("a letter", printer.type(1), 1);
        check.same("a figure", printer.type(27), 2);
        check.same("a figure again", printer.type(52), 1);
        check.same("a blank", printer.type(53), 1);
        check.same("a figure behind a blank", printer.type(28), 1);
        check.same("a letter", printer.type(26), 2);
        check.same("a letter again", printer.type(26), 1);
        check.same("a figure", printer.type(52), 2);
        check.same("a new line", printer.type(54), 1);
        check.same("a letter behind a new line", printer.type(2), 1);
        check.same("a new line", printer.type(54), 1);
        check.same("a figure behind a new line", printer.type(27), 2);
        check.same("tape", Check.tape(printer),
                1, 27, 1, 30, 4, 3, 31, 30, 30, 27, 30, 2, 3, 2, 27, 1);
        check.same("nothing is printed", printer.count(1), 0);
        printer.receive(27);
        printer.setLine(0, 9, 31);
        check.same("neither the printer nor the line matters", printer.type(28), 1);
        printer.wind(0);
        check.same("nor the reader", printer.type(29), 1);
        Check.punchAll(printer, 31, 0, 8);
        check.same("punched shifts do", printer.type(3), 1);
        printer.rub(printer.count(4) - 1);
        printer.punch(27);
        check.same("punched shifts do", printer.type(29), 1);
        check.same("a rubbed out shift does not", rubbedOutShift(), 2);
    }

    private static int rubbedOutShift() {
        TapePrinter printer = new TapePrinter();
        printer.type(27);
        printer.rub(0);
        return printer.type(27);
    }

    private static void typesByTheBlanksOfNow(Check check) {
        TapePrinter printer = new TapePrinter();
        Check.punchAll(printer, 27, 4);
        check.same("a figure, the blank keeps figures", printer.type(27), 1);
        printer.punch(4);
        printer.setUnshift(true);
        check.same("a letter, the blank unshifts now", printer.type(1), 1);
        check.same("a figure, the blank unshifts now", printer.type(27), 2);
        printer.setUnshift(false);
        printer.type(53);
        check.same("a figure, the blank keeps figures", printer.type(27), 1);
    }

    private static void typesUpToAFullTape(Check check) {
        TapePrinter printer = new TapePrinter();
        for (int k = 0; k < 119; k++) {
            printer.type(1);
        }
        check.badState("a figure with room for one", printer, () -> printer.type(27));
        check.outOfBounds("type(0) with room for one", printer, () -> printer.type(0));
        check.same("a letter with room for one", printer.type(2), 1);
        for (int character : new int[] {1, 27, 53, 54}) {
            check.badState("type on a full tape", printer, () -> printer.type(character));
        }
        check.outOfBounds("type(55) on a full tape", printer, () -> printer.type(55));
        TapePrinter other = new TapePrinter();
        for (int k = 0; k < 118; k++) {
            other.type(53);
        }
        check.same("a figure with room for two", other.type(27), 2);
        check.same("the tape is full", other.count(4), 120);
    }

    private static void badCharactersAreRefused(Check check) {
        TapePrinter printer = new TapePrinter();
        for (int bad : new int[] {0, 55, -1, Integer.MIN_VALUE, Integer.MAX_VALUE}) {
            check.outOfBounds("type(" + bad + ")", printer, () -> printer.type(bad));
        }
    }

    private static void rubsOut(Check check) {
        TapePrinter printer = new TapePrinter();
        check.outOfBounds("rub(0) without a tape", printer, () -> printer.rub(0));
        Check.punchAll(printer, 5, 27, 9, 0);
        check.same("rub", printer.rub(1), 27);
        check.same("rub", printer.rub(3), 0);
        check.same("rub again", printer.rub(1), 31);
        check.same("tape", Check.tape(printer), 5, 31, 9, 31);
        for (int bad : BAD_PLACES) {
            check.outOfBounds("rub(" + bad + ")", printer, () -> printer.rub(bad));
        }
        check.same("rub the first one", printer.rub(0), 5);
        check.same("how many stay", printer.count(4), 4);
    }

    private static void runsFromTheReader(Check check) {
        TapePrinter printer = new TapePrinter();
        for (int bad : new int[] {0, 121, -1, Integer.MIN_VALUE, Integer.MAX_VALUE}) {
            check.badArgument("run(" + bad + ")", printer, () -> printer.run(bad));
        }
        check.same("run without a tape", printer.run(1), 0);
        check.same("run without a tape", printer.run(120), 0);
        Check.punchAll(printer, 1, 27, 3, 2, 5);
        check.same("run", printer.run(1), 1);
        check.same("reader", printer.count(5), 1);
        check.same("run", printer.run(3), 3);
        check.same("reader", printer.count(5), 4);
        check.same("line 0", Check.line(printer, 0), 1, 28);
        check.same("run beyond the end", printer.run(2), 1);
        check.same("line 1", Check.line(printer, 1), 3);
        check.same("run at the end", printer.run(120), 0);
        printer.punch(6);
        check.same("run what was punched behind", printer.run(120), 1);
        printer.wind(2);
        check.same("run once more, letters now", printer.run(1), 1);
        check.same("line 1", Check.line(printer, 1), 3, 4, 2);
        check.same("counts", Check.counts(printer), 2, 5, 0, 0, 6, 3, 7, 0, 0, 0, 0);
        check.same("the tape stays", Check.tape(printer), 1, 27, 3, 2, 5, 6);
        TapePrinter full = new TapePrinter();
        for (int k = 0; k < 120; k++) {
            full.punch(1);
        }
        check.same("run a full tape", full.run(120), 120);
        check.same("what came", full.count(6), 120);
        check.same("what was lost", full.count(8), 80);
    }

    private static void runsOverTheLine(Check check) {
        TapePrinter printer = new TapePrinter();
        printer.setLine(1, 0, 1);
        printer.setLine(3, 1, 0);
        Check.punchAll(printer, 6, 6, 6, 6);
        printer.receive(0);
        check.same("run", printer.run(4), 4);
        check.same("what is read", Check.line(printer, 0), 5, 4, 2, 4);
        check.same("misread", printer.count(7), 2);
        check.same("came", printer.count(6), 5);
    }

    private static void winds(Check check) {
        TapePrinter printer = new TapePrinter();
        check.same("wind without a tape", printer.wind(0), 0);
        check.outOfBounds("wind(1) without a tape", printer, () -> printer.wind(1));
        Check.punchAll(printer, 1, 3, 5);
        check.same("wind to the end", printer.wind(3), 0);
        check.same("wind back", printer.wind(1), 3);
        check.same("wind", printer.wind(1), 1);
        for (int bad : BAD_PLACES) {
            check.outOfBounds("wind(" + bad + ")", printer, () -> printer.wind(bad));
        }
        check.same("reader", printer.count(5), 1);
        printer.run(1);
        check.same("run from there", Check.line(printer, 0), 2);
        check.same("wind from where it stopped", printer.wind(0), 2);
    }

    private static void tellsTheTape(Check check) {
        TapePrinter printer = new TapePrinter();
        check.outOfBounds("tape(0) without a tape", printer, () -> printer.tape(0));
        Check.punchAll(printer, 0, 31, 4, 17);
        check.same("tape(0)", printer.tape(0), 0);
        check.same("tape(1)", printer.tape(1), 31);
        check.same("tape(2)", printer.tape(2), 4);
        check.same("tape(3)", printer.tape(3), 17);
        for (int bad : BAD_PLACES) {
            check.outOfBounds("tape(" + bad + ")", printer, () -> printer.tape(bad));
        }
    }
}
