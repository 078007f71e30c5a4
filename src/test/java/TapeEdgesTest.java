/** The edges of promises 10 to 15, the tape: a test for each sentence that names one. */
public final class TapeEdgesTest {
    private static final int[] BAD_CODES = {-1, 32, -31, 63, Integer.MIN_VALUE, Integer.MAX_VALUE};
    private static final int[] BAD_CHARACTERS = {0, 55, -1, 56, Integer.MIN_VALUE, Integer.MAX_VALUE};
    private static final int[] NO_PLACES = {-1, -120, 120, 121, Integer.MIN_VALUE, Integer.MAX_VALUE};

    public static void main(String[] args) {
        Check check = new Check();
        punch(check);
        type(check);
        rub(check);
        run(check);
        wind(check);
        tape(check);
        check.end();
    }

    private static void punch(Check check) {
        check.sentence("Promise 10, Punches a code at the end of the tape.", TapeEdgesTest::punchesAtTheEnd);
        check.sentence("Promise 10, Returns how many codes the tape has then.", TapeEdgesTest::punchTellsHowMany);
        check.sentence("Promise 10, Throws `IndexOutOfBoundsException` if code is not 0 to 31",
                TapeEdgesTest::punchRefusesCodes);
        check.sentence("Promise 10, Throws `IllegalStateException` if it has 120", TapeEdgesTest::punchRefusesWhenFull);
    }

    private static void type(Check check) {
        check.sentence("Promise 11, and ahead of it, if it is a letter or a figure, the shift that it needs",
                TapeEdgesTest::typeShiftsForLettersAndFigures);
        check.sentence("Promise 11, if it has another one there", TapeEdgesTest::typeShiftsIfAnotherIsThere);
        check.sentence("Promise 11, as the tape is run from its beginning on", TapeEdgesTest::typeLooksAtTheWholeTape);
        check.sentence("Promise 11, with the shift letters", TapeEdgesTest::typeBeginsWithLetters);
        check.sentence("Promise 11, over a line that is good", TapeEdgesTest::typeIsOfAGoodLine);
        check.sentence("Promise 11, and blanks as they are now", TapeEdgesTest::typeTakesBlanksAsNow);
        check.sentence("Promise 11, Returns how many codes are punched.", TapeEdgesTest::typeTellsHowMany);
        check.sentence("Promise 11, Throws `IndexOutOfBoundsException` if character is not 1 to 54",
                TapeEdgesTest::typeRefusesCharacters);
        check.sentence("Promise 11, Throws `IllegalStateException` if the tape has no room for them",
                TapeEdgesTest::typeRefusesWithoutRoom);
    }

    private static void rub(Check check) {
        check.sentence("Promise 12, Rubs a code of the tape out: it is 31 then.",
                TapeEdgesTest::rubsTheFirstAndTheLast);
        check.sentence("Promise 12, Returns the code before.", TapeEdgesTest::rubTellsTheCodeBefore);
        check.sentence("Promise 12, Throws `IndexOutOfBoundsException` if there is no such place",
                TapeEdgesTest::rubRefuses);
    }

    private static void run(Check check) {
        check.sentence("Promise 13, from where the reader stands on", TapeEdgesTest::runsFromTheReaderOn);
        check.sentence("Promise 13, codes of it come over the line, one by one", TapeEdgesTest::runsOverTheLine);
        check.sentence("Promise 13, Returns how many come", TapeEdgesTest::runTellsHowMany);
        check.sentence("Promise 13, fewer, if the tape ends", TapeEdgesTest::fewerIfTheTapeEnds);
        check.sentence("Promise 13, Throws `IllegalArgumentException` if many is not 1 to 120",
                TapeEdgesTest::runRefuses);
    }

    private static void wind(Check check) {
        check.sentence("Promise 14, `place`: the place, from 0, up to how many codes the tape has",
                TapeEdgesTest::windsFrom0ToTheEnd);
        check.sentence("Promise 14, Returns the place before.", TapeEdgesTest::windTellsThePlaceBefore);
        check.sentence("Promise 14, Throws `IndexOutOfBoundsException` if there is no such place",
                TapeEdgesTest::windRefuses);
    }

    private static void tape(Check check) {
        check.sentence("Promise 15, `place`: a place of the tape, from 0", TapeEdgesTest::tapeFrom0ToTheLast);
        check.sentence("Promise 15, Throws `IndexOutOfBoundsException` if there is no such place",
                TapeEdgesTest::tapeRefuses);
    }

    // ---- punch

    private static void punchesAtTheEnd(Check check) {
        TapePrinter printer = Made.withCodes(0);
        check.same("the least code", Check.tape(printer), 0);
        printer.run(1);
        printer.wind(0);
        printer.punch(31);
        check.same("the greatest, not where the reader stands", Check.tape(printer), 0, 31);
        printer.rub(1);
        printer.punch(5);
        check.same("behind what is rubbed out", Check.tape(printer), 0, 31, 5);
        check.same("nothing is printed", printer.count(6), 1);
        check.same("the reader stays", printer.count(5), 0);
    }

    private static void punchTellsHowMany(Check check) {
        TapePrinter printer = new TapePrinter();
        for (int many = 1; many <= 120; many++) {
            check.same("punch", printer.punch(31), many);
        }
        check.same("codes", printer.count(4), 120);
    }

    private static void punchRefusesCodes(Check check) {
        for (int bad : BAD_CODES) {
            Twins.neverOutOfBounds(check, "punch(" + bad + ")", p -> p.punch(bad));
        }
    }

    private static void punchRefusesWhenFull(Check check) {
        TapePrinter printer = Made.withTape(119, 0);
        check.same("the last one has room", printer.punch(31), 120);
        for (int code : new int[] {0, 4, 31}) {
            Twins.badState(check, "punch(" + code + ")", Made::withFullTape, p -> p.punch(code));
        }
        Twins.badState(check, "behind a run", () -> ranOut(Made.withFullTape()), p -> p.punch(1));
        Twins.badState(check, "behind a rub", () -> rubbed(Made.withFullTape(), 119), p -> p.punch(1));
    }

    private static TapePrinter ranOut(TapePrinter printer) {
        printer.run(120);
        return printer;
    }

    private static TapePrinter rubbed(TapePrinter printer, int place) {
        printer.rub(place);
        return printer;
    }

    // ---- type

    private static void typeShiftsForLettersAndFigures(Check check) {
        int[] characters = {1, 26, 27, 52, 53, 54};
        int[] byLetters = {1, 1, 2, 2, 1, 1};
        int[] byFigures = {2, 2, 1, 1, 1, 1};
        int[] codes = {1, 30, 1, 30, 4, 2};
        for (int k = 0; k < characters.length; k++) {
            TapePrinter letters = new TapePrinter();
            TapePrinter figures = Made.withCodes(27);
            check.same(characters[k] + " by letters", letters.type(characters[k]), byLetters[k]);
            check.same(characters[k] + " by figures", figures.type(characters[k]), byFigures[k]);
            check.same("its code", letters.tape(byLetters[k] - 1), codes[k]);
            check.same("its code", figures.tape(byFigures[k]), codes[k]);
            if (byLetters[k] == 2) {
                check.same("to figures", letters.tape(0), 27);
            }
            if (byFigures[k] == 2) {
                check.same("to letters", figures.tape(1), 31);
            }
        }
    }

    private static void typeShiftsIfAnotherIsThere(Check check) {
        TapePrinter printer = new TapePrinter();
        int[] characters = {27, 28, 1, 2, 27, 54, 1, 54, 27};
        int[] due = {2, 1, 2, 1, 2, 1, 1, 1, 2};
        for (int k = 0; k < characters.length; k++) {
            check.same("character " + k, printer.type(characters[k]), due[k]);
        }
        check.same("the tape", Check.tape(printer), 27, 1, 3, 31, 1, 3, 27, 1, 2, 1, 2, 27, 1);
    }

    private static void typeLooksAtTheWholeTape(Check check) {
        TapePrinter printer = Made.withCodes(27);
        for (int k = 0; k < 116; k++) {
            printer.punch(k % 2 == 0 ? 0 : 8);
        }
        check.same("the reader stands at the beginning", printer.type(52), 1);
        printer.wind(118);
        check.same("the reader stands at the end", printer.type(52), 1);
        printer.rub(0);
        check.same("it is rubbed out", printer.type(26), 1);
        check.same("the tape is full", printer.count(4), 120);
    }

    private static void typeBeginsWithLetters(Check check) {
        TapePrinter printer = new TapePrinter();
        printer.receive(27);
        check.same("the printer has figures, a letter", printer.type(1), 1);
        check.same("the printer has figures, a figure", printer.type(27), 2);
        TapePrinter run = Made.withCodes(27, 1);
        run.run(2);
        Check.receiveAll(run, 31);
        check.same("the printer has letters, a figure", run.type(27), 1);
    }

    private static void typeIsOfAGoodLine(Check check) {
        TapePrinter printer = new TapePrinter();
        for (int place = 0; place < 16; place++) {
            printer.setLine(place, place % 2 == 0 ? 9 : -9, 27);
        }
        Check.punchAll(printer, 0, 0, 27);
        check.same("a figure", printer.type(27), 1);
        check.same("a letter", printer.type(1), 2);
        check.same("a letter once more", printer.type(1), 1);
    }

    private static void typeTakesBlanksAsNow(Check check) {
        TapePrinter printer = Made.withCodes(27, 4);
        check.same("they do not unshift, a figure", printer.type(27), 1);
        TapePrinter other = Made.withCodes(27, 4);
        other.setUnshift(true);
        check.same("they do, though not when it was punched", other.type(27), 2);
        other.punch(4);
        other.setUnshift(false);
        check.same("they do no more, a figure", other.type(27), 1);
        other.setUnshift(true);
        check.same("they do again, a letter", other.type(1), 1);
    }

    private static void typeTellsHowMany(Check check) {
        TapePrinter printer = new TapePrinter();
        check.same("on an empty tape, a letter", printer.type(26), 1);
        check.same("codes", printer.count(4), 1);
        check.same("with a shift", printer.type(27), 2);
        check.same("codes", printer.count(4), 3);
        check.same("on an empty tape, a figure", new TapePrinter().type(27), 2);
        check.same("on an empty tape, a blank", new TapePrinter().type(53), 1);
        check.same("on an empty tape, a new line", new TapePrinter().type(54), 1);
    }

    private static void typeRefusesCharacters(Check check) {
        for (int bad : BAD_CHARACTERS) {
            Twins.neverOutOfBounds(check, "type(" + bad + ")", p -> p.type(bad));
        }
    }

    private static void typeRefusesWithoutRoom(Check check) {
        TapePrinter two = Made.withTape(118, 4);
        check.same("room for two, two codes", two.type(27), 2);
        check.same("it is full", two.count(4), 120);
        check.same("the shift", two.tape(118), 27);
        check.same("the figure", two.tape(119), 1);
        for (int character : new int[] {1, 26, 53, 54}) {
            check.same("room for one, one code", Made.withTape(119, 4).type(character), 1);
        }
        check.same("room for one, a figure without a shift", Made.withTape(119, 27).type(52), 1);
        Twins.badState(check, "room for one, a figure", () -> Made.withTape(119, 4), p -> p.type(27));
        Twins.badState(check, "room for one, a letter", () -> Made.withTape(119, 27), p -> p.type(26));
        for (int character : new int[] {1, 26, 27, 52, 53, 54}) {
            Twins.badState(check, "no room, " + character, () -> Made.withTape(120, 4), p -> p.type(character));
            Twins.badState(check, "no room, " + character, () -> Made.withTape(120, 27), p -> p.type(character));
        }
    }

    // ---- rub

    private static void rubsTheFirstAndTheLast(Check check) {
        TapePrinter printer = Made.withFullTape();
        printer.rub(0);
        printer.rub(119);
        check.same("the first one", printer.tape(0), 31);
        check.same("the last one", printer.tape(119), 31);
        check.same("behind the first one", printer.tape(1), 1);
        check.same("ahead of the last one", printer.tape(118), 22);
        check.same("codes", printer.count(4), 120);
        check.same("the reader", printer.count(5), 60);
        TapePrinter one = Made.withCodes(0);
        one.rub(0);
        check.same("the only one", Check.tape(one), 31);
    }

    private static void rubTellsTheCodeBefore(Check check) {
        TapePrinter printer = Made.withCodes(0, 30, 31);
        check.same("the least", printer.rub(0), 0);
        check.same("the last one", printer.rub(2), 31);
        check.same("amid them", printer.rub(1), 30);
        check.same("rubbed out already", printer.rub(0), 31);
    }

    private static void rubRefuses(Check check) {
        for (int bad : NO_PLACES) {
            Twins.neverOutOfBounds(check, "rub(" + bad + ")", p -> p.rub(bad));
        }
        for (int bad : new int[] {-1, 0, 1}) {
            Twins.outOfBounds(check, "rub(" + bad + ") of none", TapePrinter::new, p -> p.rub(bad));
        }
        Twins.outOfBounds(check, "rub(1) of one", () -> Made.withTape(1, 5), p -> p.rub(1));
        Twins.outOfBounds(check, "rub(119) of 119", () -> Made.withTape(119, 5), p -> p.rub(119));
        Twins.outOfBounds(check, "rub(120) of 120", () -> Made.withTape(120, 5), p -> p.rub(120));
    }

    // ---- run

    private static void runsFromTheReaderOn(Check check) {
        TapePrinter printer = Made.withCodes(1, 3, 5, 6);
        printer.wind(3);
        check.same("the last one", printer.run(120), 1);
        check.same("the reader stays at the end", printer.count(5), 4);
        printer.wind(1);
        check.same("amid them", printer.run(1), 1);
        printer.wind(0);
        check.same("from the beginning on", printer.run(1), 1);
        check.same("the reader", printer.count(5), 1);
        check.same("what came", Check.line(printer, 0), 4, 2, 1);
        check.same("the tape stays", Check.tape(printer), 1, 3, 5, 6);
        printer.receive(9);
        check.same("a code from elsewhere does not move it", printer.count(5), 1);
    }

    private static void runsOverTheLine(Check check) {
        TapePrinter printer = Made.withTape(34, 0);
        printer.setLine(0, 0, 1);
        printer.setLine(15, -9, 0);
        printer.setLine(1, 0, 2);
        printer.run(17);
        // 0 comes 17 times: it is read as 1 at 0, as 2 at 1, as 1 at 15 and 16.
        check.same("line 0", Check.line(printer, 0), 1);
        check.same("line 1", Check.line(printer, 1), 1, 1);
        check.same("came", printer.count(6), 17);
        check.same("read as another", printer.count(7), 4);
        printer.run(17);
        check.same("at 17, 31, 32 and 33 as well", printer.count(7), 8);
        check.same("lines", printer.count(0), 4);
    }

    private static void runTellsHowMany(Check check) {
        TapePrinter printer = Made.withTape(120, 1);
        check.same("the least", printer.run(1), 1);
        check.same("all others", printer.run(119), 119);
        check.same("the reader at the end", printer.count(5), 120);
        printer.wind(0);
        check.same("the greatest", printer.run(120), 120);
        check.same("the reader at the end", printer.count(5), 120);
        check.same("what came", printer.count(6), 240);
    }

    private static void fewerIfTheTapeEnds(Check check) {
        TapePrinter none = new TapePrinter();
        check.same("no tape, the least", none.run(1), 0);
        check.same("no tape, the greatest", none.run(120), 0);
        check.same("none came", none.count(6), 0);
        TapePrinter printer = Made.withTape(119, 1);
        check.same("one fewer", printer.run(120), 119);
        check.same("at the end", printer.run(1), 0);
        check.same("at the end", printer.run(120), 0);
        check.same("the reader stays", printer.count(5), 119);
        check.same("what came", printer.count(6), 119);
        printer.wind(117);
        check.same("just up to the end", printer.run(2), 2);
        printer.wind(117);
        check.same("one more than there are", printer.run(3), 2);
        printer.punch(3);
        check.same("one was punched behind the end", printer.run(120), 1);
        Twins.unchanged(check, "a run at the end", () -> ranOut(Made.withFullTape()), p -> p.run(120));
        Twins.unchanged(check, "a run without a tape", TapePrinter::new, p -> p.run(1));
    }

    private static void runRefuses(Check check) {
        for (int bad : new int[] {0, 121, -1, -120, Integer.MIN_VALUE, Integer.MAX_VALUE}) {
            Twins.neverBadArgument(check, "run(" + bad + ")", p -> p.run(bad));
        }
    }

    // ---- wind

    private static void windsFrom0ToTheEnd(Check check) {
        TapePrinter printer = Made.withFullTape();
        printer.wind(120);
        check.same("the end of a full tape", printer.count(5), 120);
        printer.wind(0);
        check.same("its beginning", printer.count(5), 0);
        TapePrinter none = new TapePrinter();
        check.same("no tape", none.wind(0), 0);
        TapePrinter one = Made.withCodes(5);
        check.same("the end", one.wind(1), 0);
        check.same("nothing comes there", one.run(1), 0);
        one.wind(0);
        check.same("its code comes", one.run(1), 1);
    }

    private static void windTellsThePlaceBefore(Check check) {
        TapePrinter printer = Made.withTape(120, 1);
        check.same("at first", printer.wind(120), 0);
        check.same("the end", printer.wind(120), 120);
        check.same("the end", printer.wind(0), 120);
        check.same("the beginning", printer.wind(0), 0);
        printer.run(2);
        check.same("where a run ended", printer.wind(119), 2);
    }

    private static void windRefuses(Check check) {
        for (int bad : new int[] {-1, -120, 121, 122, Integer.MIN_VALUE, Integer.MAX_VALUE}) {
            Twins.neverOutOfBounds(check, "wind(" + bad + ")", p -> p.wind(bad));
        }
        Twins.outOfBounds(check, "wind(1) of none", TapePrinter::new, p -> p.wind(1));
        Twins.outOfBounds(check, "wind(2) of one", () -> Made.withTape(1, 5), p -> p.wind(2));
        Twins.outOfBounds(check, "wind(120) of 119", () -> Made.withTape(119, 5), p -> p.wind(120));
    }

    // ---- tape

    private static void tapeFrom0ToTheLast(Check check) {
        TapePrinter printer = Made.withFullTape();
        check.same("the first one", printer.tape(0), 0);
        check.same("the last one", printer.tape(119), 23);
        check.same("amid them, the greatest", printer.tape(95), 31);
        check.same("the only one", Made.withCodes(31).tape(0), 31);
        Twins.unchanged(check, "tape(119)", Made::withFullTape, p -> p.tape(119));
    }

    private static void tapeRefuses(Check check) {
        for (int bad : NO_PLACES) {
            Twins.neverOutOfBounds(check, "tape(" + bad + ")", p -> p.tape(bad));
        }
        for (int bad : new int[] {-1, 0, 1}) {
            Twins.outOfBounds(check, "tape(" + bad + ") of none", TapePrinter::new, p -> p.tape(bad));
        }
        Twins.outOfBounds(check, "tape(1) of one", () -> Made.withTape(1, 5), p -> p.tape(1));
        Twins.outOfBounds(check, "tape(119) of 119", () -> Made.withTape(119, 5), p -> p.tape(119));
    }
}
