/** The edges of "What it is" and "Terms": each sentence that names one has a test of its own. */
public final class TermsEdgesTest {
    private static final int[] BAD_CODES = {-1, 32, Integer.MIN_VALUE, Integer.MAX_VALUE};

    public static void main(String[] args) {
        Check check = new Check();
        check.sentence("An object is used for at most 512 calls after it has been made",
                TermsEdgesTest::theLastCallIsAnswered);
        characters(check);
        printer(check);
        codesThatCome(check);
        selector(check);
        lineAndTape(check);
        check.sentence("A method that throws an exception changes nothing.",
                TermsEdgesTest::refusedCallsChangeNothing);
        check.sentence("If several exceptions apply, the one that is named first is thrown.",
                TermsEdgesTest::theFirstNamedIsThrown);
        check.end();
    }

    private static void characters(Check check) {
        check.sentence("All numbers are whole.", TermsEdgesTest::theLeastAndTheGreatestIntAreRefused);
        check.sentence("A code is a number of 0 to 31", TermsEdgesTest::codesAre0To31);
        check.sentence("its bits, the least one first, are the five units", TermsEdgesTest::bitsAreUnits);
        check.sentence("Letters are 1 to 26, figures are 27 to 52", TermsEdgesTest::lettersAndFigures);
        check.sentence("53 is a blank, 54 a new line.", TermsEdgesTest::blankAndNewLine);
        check.sentence("31 shifts to letters, 27 to figures, 4 is a blank, 2 a new line, 8 rings the bell, 0 is nothing.",
                TermsEdgesTest::codesOfTheirOwn);
        check.sentence("All other ones, the smallest first, are those of the letters 1 to 26, in their order",
                TermsEdgesTest::codesOfTheLetters);
        check.sentence("and of the figures 27 to 52, in their order as well", TermsEdgesTest::codesOfTheFigures);
        check.sentence("which one it is depends on the shift", TermsEdgesTest::theShiftTellsWhich);
        check.sentence("So each letter has the code of the figure that is 26 greater.",
                TermsEdgesTest::lettersHaveTheCodesOfFigures);
    }

    private static void printer(Check check) {
        check.sentence("Its shift is letters, at first.", TermsEdgesTest::lettersAtFirst);
        check.sentence("The page has at most 20 lines", TermsEdgesTest::atMost20Lines);
        check.sentence("each of at most 40 characters", TermsEdgesTest::atMost40Characters);
        check.sentence("printing goes on in the last line", TermsEdgesTest::printsInTheLastLine);
        check.sentence("(there is an empty one, at first)", TermsEdgesTest::anEmptyLineAtFirst);
        check.sentence("a character for which a line has no room any more is lost",
                TermsEdgesTest::withoutRoomItIsLost);
        check.sentence("a new line behind the last one of 20 has the first one go", TermsEdgesTest::theFirstLineGoes);
        check.sentence("and all others move up", TermsEdgesTest::theOthersMoveUp);
    }

    private static void codesThatCome(Check check) {
        check.sentence("0 does nothing", TermsEdgesTest::zeroDoesNothing);
        check.sentence("31 and 27 shift", TermsEdgesTest::shiftsShift);
        check.sentence("4 prints a blank (53)", TermsEdgesTest::fourPrintsABlank);
        check.sentence("if it unshifts (it does not, at first), shifts to letters", TermsEdgesTest::blanksUnshift);
        check.sentence("also if the blank is lost", TermsEdgesTest::lostBlanksUnshift);
        check.sentence("2 begins a new line (54)", TermsEdgesTest::twoBeginsALine);
        check.sentence("and shifts to letters", TermsEdgesTest::newLinesShiftToLetters);
        check.sentence("8 rings the bell, and prints nothing", TermsEdgesTest::eightRings);
        check.sentence("any other one prints its letter or figure, by the shift", TermsEdgesTest::theOthersPrint);
    }

    private static void selector(Check check) {
        check.sentence("Five fingers, one for each unit", TermsEdgesTest::fiveFingers);
        check.sentence("it has a play of 0 (at first) to 9", TermsEdgesTest::playIs0To9);
        check.sentence("If the start of a character is late by more than the play, each finger reads the unit behind its own one",
                TermsEdgesTest::lateByMoreThanThePlay);
        check.sentence("(the last one reads none)", TermsEdgesTest::theLastReadsNone);
        check.sentence("if it is early by more than the play, that ahead of it",
                TermsEdgesTest::earlyByMoreThanThePlay);
        check.sentence("(the first one reads current, the stop of the character before)",
                TermsEdgesTest::theFirstReadsCurrent);
        check.sentence("What is read is another code, if it differs in some unit.", TermsEdgesTest::anotherIfItDiffers);
    }

    private static void lineAndTape(Check check) {
        check.sentence("A table tells for each of 16 characters that come (counted from 0 on, by the remainder of 16)",
                TermsEdgesTest::theTableGoesRound);
        check.sentence("by how much its start is early (less than 0) or late, -9 to 9", TermsEdgesTest::lateIsUpTo9);
        check.sentence("(0, at first), and which of its units are garbled", TermsEdgesTest::inTimeAtFirst);
        check.sentence("these are turned round, ahead of the selector", TermsEdgesTest::garbledAheadOfTheSelector);
        check.sentence("ahead of the selector (none, at first).", TermsEdgesTest::noneIsGarbledAtFirst);
        check.sentence("It has at most 120 codes", TermsEdgesTest::atMost120Codes);
        check.sentence("in their order", TermsEdgesTest::codesInTheirOrder);
        check.sentence("(none, at first)", TermsEdgesTest::noCodesAtFirst);
        check.sentence("a reader stands at a place of it (0, at first)", TermsEdgesTest::theReaderAtFirst);
    }

    // ---- what it is

    private static void theLastCallIsAnswered(Check check) {
        TapePrinter printer = new TapePrinter();
        for (int call = 1; call <= 511; call++) {
            check.same("call " + call, printer.receive(call % 32), call % 32);
        }
        check.same("call 512", printer.count(6), 511);
        TapePrinter runner = Made.withTape(120, 1);
        for (int k = 0; k < 195; k++) {
            check.same("run", runner.run(120), 120);
            check.same("wind", runner.wind(0), 120);
        }
        check.same("call 511, all that came", runner.count(6), 195 * 120);
        check.same("call 512, all that were lost", runner.count(8), 195 * 120 - 40);
    }

    // ---- characters

    private static void theLeastAndTheGreatestIntAreRefused(Check check) {
        for (int bad : new int[] {Integer.MIN_VALUE, Integer.MAX_VALUE}) {
            Twins.neverOutOfBounds(check, "code", p -> p.code(bad));
            Twins.neverOutOfBounds(check, "character", p -> p.character(bad, true));
            Twins.neverOutOfBounds(check, "apart", p -> p.apart(bad, bad));
            Twins.neverOutOfBounds(check, "doubts", p -> p.doubts(bad));
            Twins.neverOutOfBounds(check, "setLine", p -> p.setLine(bad, bad, bad));
            Twins.neverBadArgument(check, "setLine", p -> p.setLine(0, bad, bad));
            Twins.neverBadArgument(check, "setPlay", p -> p.setPlay(bad));
            Twins.neverOutOfBounds(check, "receive", p -> p.receive(bad));
            Twins.neverOutOfBounds(check, "punch", p -> p.punch(bad));
            Twins.neverOutOfBounds(check, "type", p -> p.type(bad));
            Twins.neverOutOfBounds(check, "rub", p -> p.rub(bad));
            Twins.neverBadArgument(check, "run", p -> p.run(bad));
            Twins.neverOutOfBounds(check, "wind", p -> p.wind(bad));
            Twins.neverOutOfBounds(check, "tape", p -> p.tape(bad));
            Twins.neverOutOfBounds(check, "page", p -> p.page(bad, bad));
            Twins.neverOutOfBounds(check, "length", p -> p.length(bad));
            Twins.neverOutOfBounds(check, "count", p -> p.count(bad));
            Twins.neverOutOfBounds(check, "would", p -> p.would(bad));
            Twins.neverOutOfBounds(check, "prints", p -> p.prints(bad));
        }
    }

    private static void codesAre0To31(Check check) {
        TapePrinter printer = new TapePrinter();
        for (int code : new int[] {0, 31}) {
            check.same("character", printer.character(code, true), 0);
            check.same("doubts", printer.doubts(code), 4);
            check.same("would", printer.would(code), code);
            check.same("receive", printer.receive(code), code);
            check.same("garble", printer.setLine(9, 0, code), 0);
        }
        check.same("punch", printer.punch(0), 1);
        check.same("punch", printer.punch(31), 2);
        for (int bad : BAD_CODES) {
            Twins.neverOutOfBounds(check, "character(" + bad + ")", p -> p.character(bad, false));
            Twins.neverOutOfBounds(check, "doubts(" + bad + ")", p -> p.doubts(bad));
            Twins.neverOutOfBounds(check, "would(" + bad + ")", p -> p.would(bad));
            Twins.neverOutOfBounds(check, "receive(" + bad + ")", p -> p.receive(bad));
            Twins.neverOutOfBounds(check, "punch(" + bad + ")", p -> p.punch(bad));
            Twins.neverBadArgument(check, "garble " + bad, p -> p.setLine(0, 0, bad));
        }
    }

    private static void bitsAreUnits(Check check) {
        TapePrinter printer = new TapePrinter();
        printer.setLine(0, 1, 0);
        check.same("the second unit is read as the first", printer.would(0b00010), 0b00001);
        check.same("the fifth unit is read as the fourth", printer.would(0b10000), 0b01000);
        check.same("the first unit is read by no finger", printer.would(0b00001), 0);
        printer.setLine(0, -1, 0);
        check.same("the first unit is read as the second", printer.would(0b00001) >> 1, 0b0001);
        check.same("the fifth unit is read by no finger", printer.would(0b10000) >> 1, 0);
        for (int unit = 0; unit < 5; unit++) {
            printer.setLine(0, 0, 1 << unit);
            check.same("unit " + unit + " is garbled", printer.would(0), 1 << unit);
        }
    }

    private static void lettersAndFigures(Check check) {
        check.same("26 is a letter", new TapePrinter().type(26), 1);
        check.same("27 is a figure", new TapePrinter().type(27), 2);
        check.same("1 is a letter", new TapePrinter().type(1), 1);
        check.same("52 is a figure", new TapePrinter().type(52), 2);
        check.same("53 is none", new TapePrinter().type(53), 1);
        TapePrinter printer = Made.withCodes(27);
        check.same("27 is a figure", printer.type(27), 1);
        check.same("52 is a figure", printer.type(52), 1);
        check.same("53 is no letter", printer.type(53), 1);
        check.same("26 is a letter", printer.type(26), 2);
        printer.punch(27);
        check.same("1 is a letter", printer.type(1), 2);
        printer.punch(27);
        check.same("54 is no letter", printer.type(54), 1);
        check.same("the tape", Check.tape(printer), 27, 1, 30, 4, 31, 30, 27, 31, 1, 27, 2);
    }

    private static void blankAndNewLine(Check check) {
        TapePrinter printer = new TapePrinter();
        check.same("the code of 53", printer.code(53), 4);
        check.same("the code of 54", printer.code(54), 2);
        check.same("the character of 4", printer.character(4, false), 53);
        check.same("the character of 2", printer.character(2, false), 54);
        Twins.neverOutOfBounds(check, "55 is no character", p -> p.code(55));
        Twins.neverOutOfBounds(check, "0 is no character", p -> p.code(0));
    }

    private static void codesOfTheirOwn(Check check) {
        TapePrinter printer = new TapePrinter();
        for (boolean isFigures : new boolean[] {false, true}) {
            for (int none : new int[] {0, 8, 27, 31}) {
                check.same("the character of " + none, printer.character(none, isFigures), 0);
            }
            check.same("the character of 4", printer.character(4, isFigures), 53);
            check.same("the character of 2", printer.character(2, isFigures), 54);
        }
        check.same("the code of a blank", printer.code(53), 4);
        check.same("the code of a new line", printer.code(54), 2);
        for (int character = 1; character <= 52; character++) {
            int code = printer.code(character);
            check.tell(code != 31 && code != 27 && code != 4 && code != 2 && code != 8 && code != 0,
                    "the code of " + character + " is " + code);
        }
    }

    private static void codesOfTheLetters(Check check) {
        TapePrinter printer = new TapePrinter();
        check.same("the first letter has the smallest code", printer.code(1), 1);
        check.same("behind 2", printer.code(2), 3);
        check.same("behind 4", printer.code(3), 5);
        check.same("ahead of 8", printer.code(5), 7);
        check.same("behind 8", printer.code(6), 9);
        check.same("ahead of 27", printer.code(23), 26);
        check.same("behind 27", printer.code(24), 28);
        check.same("the last letter has the greatest code", printer.code(26), 30);
        for (int letter = 2; letter <= 26; letter++) {
            check.tell(printer.code(letter - 1) < printer.code(letter), "letter " + letter + " is out of order");
            check.same("the letter of its code", printer.character(printer.code(letter), false), letter);
        }
    }

    private static void codesOfTheFigures(Check check) {
        TapePrinter printer = new TapePrinter();
        check.same("the first figure has the smallest code", printer.code(27), 1);
        check.same("behind 2", printer.code(28), 3);
        check.same("behind 4", printer.code(29), 5);
        check.same("ahead of 8", printer.code(31), 7);
        check.same("behind 8", printer.code(32), 9);
        check.same("ahead of 27", printer.code(49), 26);
        check.same("behind 27", printer.code(50), 28);
        check.same("the last figure has the greatest code", printer.code(52), 30);
        for (int figure = 28; figure <= 52; figure++) {
            check.tell(printer.code(figure - 1) < printer.code(figure), "figure " + figure + " is out of order");
            check.same("the figure of its code", printer.character(printer.code(figure), true), figure);
        }
    }

    private static void theShiftTellsWhich(Check check) {
        TapePrinter printer = new TapePrinter();
        check.same("1 by letters", printer.character(1, false), 1);
        check.same("1 by figures", printer.character(1, true), 27);
        check.same("30 by letters", printer.character(30, false), 26);
        check.same("30 by figures", printer.character(30, true), 52);
        Check.receiveAll(printer, 1, 30, 27, 1, 30);
        check.same("what is printed", Check.line(printer, 0), 1, 26, 27, 52);
    }

    private static void lettersHaveTheCodesOfFigures(Check check) {
        TapePrinter printer = new TapePrinter();
        for (int letter = 1; letter <= 26; letter++) {
            check.same("the code of " + letter, printer.code(letter), printer.code(letter + 26));
            check.same(letter + " and its figure", printer.apart(letter, letter + 26), 0);
        }
    }

    // ---- the printer

    private static void lettersAtFirst(Check check) {
        TapePrinter printer = new TapePrinter();
        check.same("the shift", printer.count(2), 0);
        printer.receive(1);
        check.same("the first character", printer.page(0, 0), 1);
    }

    private static void atMost20Lines(Check check) {
        TapePrinter printer = new TapePrinter();
        for (int lines = 1; lines <= 20; lines++) {
            check.same("lines", printer.count(0), lines);
            check.same("the last one is empty", printer.length(lines - 1), 0);
            printer.receive(2);
        }
        check.same("no more than 20", printer.count(0), 20);
        Check.receiveMany(printer, 40, 2);
        check.same("no more than 20", printer.count(0), 20);
        check.same("line 19 is there", printer.length(19), 0);
        Twins.outOfBounds(check, "line 20", Made::withFullPage, p -> p.length(20));
    }

    private static void atMost40Characters(Check check) {
        TapePrinter printer = Made.withLine(39);
        printer.receive(30);
        check.same("40 characters", printer.length(0), 40);
        check.same("the last one", printer.page(0, 39), 26);
        printer.receive(3);
        check.same("no more than 40", printer.length(0), 40);
        check.same("the last one stays", printer.page(0, 39), 26);
        TapePrinter full = Made.withFullPage();
        for (int line = 0; line < 20; line++) {
            check.same("line " + line, full.length(line), 40);
        }
        full.receive(1);
        check.same("no more than 800", full.count(1), 800);
    }

    private static void printsInTheLastLine(Check check) {
        TapePrinter printer = new TapePrinter();
        Check.receiveAll(printer, 1, 2, 3, 5, 2, 2, 6);
        check.same("line 0", Check.line(printer, 0), 1);
        check.same("line 1", Check.line(printer, 1), 2, 3);
        check.same("line 2", Check.line(printer, 2));
        check.same("line 3", Check.line(printer, 3), 4);
        TapePrinter full = Made.withFullPage();
        Check.receiveAll(full, 2, 1);
        check.same("the last one of 20", Check.line(full, 19), 1);
    }

    private static void anEmptyLineAtFirst(Check check) {
        TapePrinter printer = new TapePrinter();
        check.same("lines", printer.count(0), 1);
        check.same("its length", printer.length(0), 0);
        check.same("characters", printer.count(1), 0);
        printer.receive(1);
        check.same("lines", printer.count(0), 1);
        check.same("it is printed in", Check.line(printer, 0), 1);
    }

    private static void withoutRoomItIsLost(Check check) {
        TapePrinter printer = Made.withLine(39);
        printer.receive(3);
        check.same("none is lost ahead of 41", printer.count(8), 0);
        printer.receive(30);
        check.same("the first one that is lost", printer.count(8), 1);
        Check.receiveAll(printer, 4, 27, 1);
        check.same("a blank and a figure are lost as well", printer.count(8), 3);
        check.same("they stand in no other line", printer.count(0), 1);
        Check.receiveAll(printer, 2, 3);
        check.same("the next line has room", Check.line(printer, 1), 2);
        check.same("the full line stays", printer.page(0, 39), 2);
        check.same("no more are lost", printer.count(8), 3);
        TapePrinter full = Made.withFullPage();
        long page = full.count(1);
        full.receive(1);
        check.same("lost on a full page", full.count(8), 1);
        check.same("a full page", full.count(1), page);
    }

    private static void theFirstLineGoes(Check check) {
        TapePrinter printer = Made.withFullLines(19);
        Check.receiveAll(printer, 2, 1);
        check.same("line 20 has no line go", printer.page(0, 0), 1);
        check.same("characters", printer.count(1), 761);
        printer.receive(2);
        check.same("line 0 has gone", printer.page(0, 0), 2);
        check.same("so have its characters", printer.count(1), 721);
        check.same("lines", printer.count(0), 20);
        check.same("they are not lost for want of room", printer.count(8), 0);
        for (int gone = 2; gone <= 19; gone++) {
            check.same("line 0 is the oldest", printer.page(0, 0), gone);
            printer.receive(2);
        }
        check.same("the short line", Check.line(printer, 0), 1);
        printer.receive(2);
        check.same("all empty", printer.count(1), 0);
        check.same("line 0", printer.length(0), 0);
    }

    private static void theOthersMoveUp(Check check) {
        TapePrinter printer = Made.withFullPage();
        printer.receive(2);
        for (int line = 0; line < 19; line++) {
            check.same("line " + line, printer.page(line, 0), line + 2);
            check.same("the end of line " + line, printer.page(line, 39), 26);
        }
        check.same("the last one is empty", printer.length(19), 0);
        printer.receive(27);
        for (int more = 1; more <= 45; more++) {
            Check.receiveAll(printer, printer.code(1 + more % 26), 2);
            check.same("line 18 behind " + more, printer.page(18, 0), more == 1 ? 27 + more : 1 + more % 26);
            check.same("line 19 behind " + more, printer.length(19), 0);
        }
        for (int line = 0; line < 19; line++) {
            check.same("line " + line, Check.line(printer, line), 1 + (27 + line) % 26);
        }
    }

    // ---- a code comes

    private static void zeroDoesNothing(Check check) {
        TapePrinter printer = Made.withLine(40);
        Check.receiveAll(printer, 27, 0);
        check.same("counts", Check.counts(printer), 1, 40, 1, 0, 0, 0, 42, 0, 0, 0, 0);
        TapePrinter other = new TapePrinter();
        Check.receiveAll(other, 0, 0);
        check.same("counts", Check.counts(other), 1, 0, 0, 0, 0, 0, 2, 0, 0, 0, 0);
    }

    private static void shiftsShift(Check check) {
        TapePrinter printer = Made.withLine(40);
        int[] codes = {31, 27, 27, 31, 31, 27};
        int[] due = {0, 1, 1, 0, 0, 1};
        for (int k = 0; k < codes.length; k++) {
            printer.receive(codes[k]);
            check.same("the shift behind code " + k, printer.count(2), due[k]);
        }
        check.same("none is lost", printer.count(8), 0);
        check.same("none is printed", printer.count(1), 40);
        check.same("no bell", printer.count(10), 0);
    }

    private static void fourPrintsABlank(Check check) {
        TapePrinter printer = Made.withLine(38);
        Check.receiveAll(printer, 4, 27, 4);
        check.same("by letters", printer.page(0, 38), 53);
        check.same("by figures, at the last place", printer.page(0, 39), 53);
        check.same("none is lost", printer.count(8), 0);
        printer.receive(4);
        check.same("one is lost", printer.count(8), 1);
    }

    private static void blanksUnshift(Check check) {
        TapePrinter printer = new TapePrinter();
        Check.receiveAll(printer, 27, 4);
        check.same("not at first", printer.count(2), 1);
        printer.setUnshift(true);
        check.same("not ahead of a blank", printer.count(2), 1);
        printer.receive(4);
        check.same("to letters", printer.count(2), 0);
        printer.receive(4);
        check.same("still letters", printer.count(2), 0);
        Check.receiveAll(printer, 27, 1);
        printer.setUnshift(false);
        printer.receive(4);
        check.same("no more", printer.count(2), 1);
        printer.receive(1);
        check.same("what is printed", Check.line(printer, 0), 53, 53, 53, 27, 53, 27);
    }

    private static void lostBlanksUnshift(Check check) {
        TapePrinter printer = Made.withLine(40);
        printer.receive(27);
        printer.setUnshift(true);
        printer.receive(4);
        check.same("to letters", printer.count(2), 0);
        check.same("it is lost", printer.count(8), 1);
        TapePrinter other = Made.withLine(40);
        Check.receiveAll(other, 27, 4);
        check.same("not, if a blank does not unshift", other.count(2), 1);
        check.same("it is lost", other.count(8), 1);
    }

    private static void twoBeginsALine(Check check) {
        TapePrinter printer = Made.withLine(40);
        printer.receive(2);
        check.same("lines", printer.count(0), 2);
        check.same("the full line", printer.length(0), 40);
        check.same("the new line is in no line", printer.length(1), 0);
        check.same("nor is it lost", printer.count(8), 0);
        printer.receive(2);
        check.same("an empty line behind an empty one", printer.count(0), 3);
        TapePrinter full = Made.withFullPage();
        full.receive(2);
        check.same("it begins one on a full page", full.length(19), 0);
        check.same("nor is it lost there", full.count(8), 0);
    }

    private static void newLinesShiftToLetters(Check check) {
        TapePrinter printer = new TapePrinter();
        Check.receiveAll(printer, 27, 2);
        check.same("though a blank does not unshift", printer.count(2), 0);
        printer.receive(2);
        check.same("still letters", printer.count(2), 0);
        TapePrinter full = Made.withFullPage();
        Check.receiveAll(full, 27, 2);
        check.same("behind 20 lines as well", full.count(2), 0);
    }

    private static void eightRings(Check check) {
        TapePrinter printer = Made.withLine(39);
        Check.receiveAll(printer, 8, 27, 8, 8);
        check.same("times", printer.count(10), 3);
        check.same("printed", printer.count(1), 39);
        check.same("the shift stays", printer.count(2), 1);
        Check.receiveAll(printer, 1, 8);
        check.same("a full line", printer.count(10), 4);
        check.same("none is lost", printer.count(8), 0);
    }

    private static void theOthersPrint(Check check) {
        TapePrinter printer = new TapePrinter();
        int[] codes = {1, 3, 5, 7, 9, 26, 28, 30};
        Check.receiveAll(printer, codes);
        printer.receive(27);
        Check.receiveAll(printer, codes);
        check.same("letters and figures", Check.line(printer, 0),
                1, 2, 3, 5, 6, 23, 24, 26, 27, 28, 29, 31, 32, 49, 50, 52);
        check.same("no bell, one line", Check.counts(printer), 1, 16, 1, 0, 0, 0, 17, 0, 0, 0, 0);
    }

    // ---- the selector

    private static void fiveFingers(Check check) {
        TapePrinter printer = new TapePrinter();
        for (int late = -9; late <= 9; late++) {
            printer.setLine(0, late, 0);
            int read = printer.would(31);
            check.tell(read >= 0 && read <= 31, "31, late by " + late + ", is read as " + read);
        }
        printer.setLine(0, 0, 0);
        check.same("all five read current", printer.would(31), 31);
        check.same("none of the five does", printer.would(0), 0);
    }

    private static void playIs0To9(Check check) {
        TapePrinter printer = new TapePrinter();
        check.same("at first", printer.count(3), 0);
        check.same("the greatest", printer.setPlay(9), 0);
        check.same("the greatest", printer.count(3), 9);
        check.same("the least", printer.setPlay(0), 9);
        check.same("the least", printer.count(3), 0);
        for (int bad : new int[] {-1, 10, Integer.MIN_VALUE, Integer.MAX_VALUE}) {
            Twins.neverBadArgument(check, "a play of " + bad, p -> p.setPlay(bad));
        }
    }

    private static void lateByMoreThanThePlay(Check check) {
        TapePrinter printer = new TapePrinter();
        for (int play = 0; play <= 9; play++) {
            printer.setPlay(play);
            printer.setLine(0, play, 0);
            check.same("late by the play of " + play, printer.would(0b10110), 0b10110);
            if (play < 9) {
                printer.setLine(0, play + 1, 0);
                check.same("late by one more than " + play, printer.would(0b10110), 0b01011);
                printer.setLine(0, 9, 0);
                check.same("late by 9, play " + play, printer.would(0b10110), 0b01011);
            }
        }
    }

    private static void theLastReadsNone(Check check) {
        TapePrinter printer = new TapePrinter();
        printer.setLine(0, 1, 0);
        printer.setLine(1, 9, 31);
        check.same("31", printer.would(31), 0b01111);
        check.same("16", printer.would(16), 0b01000);
        check.same("0", printer.would(0), 0);
        check.same("what comes", printer.receive(31), 0b01111);
        check.same("all units turned round", printer.would(0), 0b01111);
    }

    private static void earlyByMoreThanThePlay(Check check) {
        TapePrinter printer = new TapePrinter();
        for (int play = 0; play <= 9; play++) {
            printer.setPlay(play);
            printer.setLine(0, -play, 0);
            check.same("early by the play of " + play, printer.would(0b10110), 0b10110);
            if (play < 9) {
                printer.setLine(0, -play - 1, 0);
                check.same("early by one more than " + play, printer.would(0b10110), 0b01101);
                printer.setLine(0, -9, 0);
                check.same("early by 9, play " + play, printer.would(0b10110), 0b01101);
            }
        }
    }

    private static void theFirstReadsCurrent(Check check) {
        TapePrinter printer = new TapePrinter();
        printer.setLine(0, -1, 0);
        printer.setLine(1, -9, 31);
        check.same("0, ahead of which none came", printer.would(0), 1);
        check.same("16", printer.would(16), 1);
        check.same("31", printer.would(31), 31);
        check.same("15", printer.would(15), 31);
        check.same("what comes", printer.receive(0), 1);
        check.same("31, all units turned round, behind 0", printer.would(31), 1);
    }

    private static void anotherIfItDiffers(Check check) {
        TapePrinter printer = new TapePrinter();
        printer.setLine(0, -1, 0);
        printer.setLine(1, 1, 0);
        printer.setLine(2, 1, 0b11110);
        printer.setLine(3, 0, 0b10000);
        printer.setLine(4, 0, 0b00001);
        check.same("31, early", printer.receive(31), 31);
        check.same("0, late", printer.receive(0), 0);
        check.same("garbled and late", printer.receive(0b01010), 0b01010);
        check.same("none is another code", printer.count(7), 0);
        check.same("the last unit differs", printer.receive(0), 16);
        check.same("it is another code", printer.count(7), 1);
        check.same("the first unit differs", printer.receive(0), 1);
        check.same("it is another code", printer.count(7), 2);
    }

    // ---- the line and the tape

    private static void theTableGoesRound(Check check) {
        TapePrinter printer = Made.withTape(40, 0);
        printer.setLine(0, 0, 7);
        printer.setLine(15, 0, 9);
        for (int came = 0; came < 50; came++) {
            int due = came % 16 == 0 ? 7 : came % 16 == 15 ? 9 : 0;
            check.same("code " + came, printer.receive(0), due);
        }
        printer.run(14);
        check.same("those that a run has come count", printer.would(0), 7);
        printer.run(15);
        check.same("code 79", printer.receive(0), 9);
        check.same("code 80", printer.receive(0), 7);
    }

    private static void lateIsUpTo9(Check check) {
        TapePrinter printer = new TapePrinter();
        printer.setPlay(8);
        check.same("the greatest", printer.setLine(0, 9, 0), 0);
        check.same("late", printer.would(6), 3);
        check.same("the least", printer.setLine(0, -9, 0), 9);
        check.same("early", printer.would(6), 13);
        check.same("neither", printer.setLine(0, 0, 0), -9);
        check.same("in time", printer.would(6), 6);
        for (int bad : new int[] {-10, 10, Integer.MIN_VALUE, Integer.MAX_VALUE}) {
            Twins.neverBadArgument(check, "late by " + bad, p -> p.setLine(0, bad, 0));
        }
    }

    private static void inTimeAtFirst(Check check) {
        TapePrinter printer = new TapePrinter();
        for (int place = 0; place < 16; place++) {
            check.same("the play is 0, code " + place, printer.receive(21), 21);
        }
        for (int place = 0; place < 16; place++) {
            check.same("place " + place, printer.setLine(place, 5, 0), 0);
        }
    }

    private static void garbledAheadOfTheSelector(Check check) {
        TapePrinter printer = new TapePrinter();
        printer.setLine(0, 9, 0b10001);
        check.same("late", printer.would(0), 0b01000);
        printer.setLine(0, -9, 0b10001);
        check.same("early", printer.would(0), 0b00011);
        printer.setLine(0, 0, 31);
        check.same("all of none", printer.would(0), 31);
        check.same("all of five", printer.would(31), 0);
        printer.setLine(0, 0, 0);
        check.same("none", printer.would(31), 31);
    }

    private static void noneIsGarbledAtFirst(Check check) {
        TapePrinter printer = new TapePrinter();
        for (int place = 0; place < 16; place++) {
            check.same("0 as code " + place, printer.would(0), 0);
            check.same("31 as code " + place, printer.receive(31), 31);
        }
        check.same("no other code", printer.count(7), 0);
    }

    private static void atMost120Codes(Check check) {
        TapePrinter printer = Made.withTape(119, 1);
        check.same("code 120", printer.punch(3), 120);
        check.same("codes", printer.count(4), 120);
        check.same("the last one", printer.tape(119), 3);
        Twins.badState(check, "code 121", Made::withFullTape, p -> p.punch(3));
        Twins.badState(check, "character 121", Made::withFullTape, p -> p.type(1));
    }

    private static void codesInTheirOrder(Check check) {
        TapePrinter printer = Made.withFullTape();
        for (int place = 0; place < 120; place++) {
            check.same("place " + place, printer.tape(place), place % 32);
        }
        TapePrinter three = Made.withCodes(5, 3, 1);
        three.run(3);
        check.same("they come in it", Check.line(three, 0), 3, 2, 1);
    }

    private static void noCodesAtFirst(Check check) {
        TapePrinter printer = new TapePrinter();
        check.same("codes", printer.count(4), 0);
        check.same("run", printer.run(120), 0);
        check.same("the first one", printer.punch(9), 1);
        check.same("the first one", printer.tape(0), 9);
        Twins.outOfBounds(check, "tape(0)", TapePrinter::new, p -> p.tape(0));
    }

    private static void theReaderAtFirst(Check check) {
        TapePrinter printer = new TapePrinter();
        check.same("the reader", printer.count(5), 0);
        Check.punchAll(printer, 1, 3);
        check.same("it stays when codes are punched", printer.count(5), 0);
        printer.type(3);
        check.same("it stays when they are typed", printer.count(5), 0);
        printer.run(1);
        check.same("the first code comes", Check.line(printer, 0), 1);
        check.same("where it stood", new TapePrinter().wind(0), 0);
    }

    // ---- exceptions

    private static void refusedCallsChangeNothing(Check check) {
        Twins.neverOutOfBounds(check, "code", p -> p.code(0));
        Twins.neverOutOfBounds(check, "character", p -> p.character(32, true));
        Twins.neverOutOfBounds(check, "apart", p -> p.apart(1, 55));
        Twins.neverOutOfBounds(check, "doubts", p -> p.doubts(32));
        Twins.neverOutOfBounds(check, "setLine, place", p -> p.setLine(16, 9, 31));
        Twins.neverBadArgument(check, "setLine, late", p -> p.setLine(0, 10, 31));
        Twins.neverBadArgument(check, "setLine, garble", p -> p.setLine(0, 9, 32));
        Twins.neverBadArgument(check, "setPlay", p -> p.setPlay(10));
        Twins.neverOutOfBounds(check, "receive", p -> p.receive(32));
        Twins.neverOutOfBounds(check, "punch", p -> p.punch(32));
        Twins.badState(check, "punch, full", Made::withFullTape, p -> p.punch(31));
        Twins.neverOutOfBounds(check, "type", p -> p.type(55));
        Twins.badState(check, "type, no room for two", () -> Made.withTape(119, 1), p -> p.type(27));
        Twins.neverOutOfBounds(check, "rub", p -> p.rub(120));
        Twins.neverBadArgument(check, "run", p -> p.run(121));
        Twins.neverOutOfBounds(check, "wind", p -> p.wind(121));
        Twins.neverOutOfBounds(check, "tape", p -> p.tape(120));
        Twins.neverOutOfBounds(check, "page", p -> p.page(20, 0));
        Twins.neverOutOfBounds(check, "length", p -> p.length(20));
        Twins.neverOutOfBounds(check, "count", p -> p.count(11));
        Twins.neverOutOfBounds(check, "would", p -> p.would(32));
        Twins.neverOutOfBounds(check, "prints", p -> p.prints(120));
    }

    private static void theFirstNamedIsThrown(Check check) {
        Twins.neverOutOfBounds(check, "setLine, all three", p -> p.setLine(-1, 10, 32));
        Twins.neverOutOfBounds(check, "setLine, place and late", p -> p.setLine(16, -10, 0));
        Twins.neverOutOfBounds(check, "setLine, place and garble", p -> p.setLine(16, 0, -1));
        Twins.neverBadArgument(check, "setLine, late and garble", p -> p.setLine(15, -10, -1));
        Twins.outOfBounds(check, "punch, a bad code and a full tape", Made::withFullTape, p -> p.punch(32));
        Twins.outOfBounds(check, "punch, a bad code and a full tape", Made::withFullTape, p -> p.punch(-1));
        Twins.outOfBounds(check, "type, a bad character and a full tape", Made::withFullTape, p -> p.type(0));
        Twins.outOfBounds(check, "type, a bad character and a full tape", Made::withFullTape, p -> p.type(55));
    }
}
