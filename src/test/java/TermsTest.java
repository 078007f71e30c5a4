import java.util.Arrays;

/** What stands in "Terms" and names no edge: each part of a sentence there has a test of its own. */
public final class TermsTest {
    /** A letter, a figure, a blank, a new line: what a text is made of. */
    private static final int[] KINDS = {1, 27, 53, 54};

    public static void main(String[] args) {
        Check check = new Check();
        whatAPrinterIs(check);
        whatIsTold(check);
        check.sentence("A code comes", TermsTest::eachCodeInEachState);
        check.sentence("which of its units are garbled, as a code", TermsTest::garbledAsACode);
        check.end();
    }

    private static void whatAPrinterIs(Check check) {
        check.sentence("Each character is five units, current or none", TermsTest::charactersAreFiveUnits);
        check.sentence("two of them shift between letters and figures", TermsTest::twoShift);
        check.sentence("selector fingers drop into notches by the units, and set type upon a page",
                TermsTest::fingersSetType);
        check.sentence("lines that are bad garble units", TermsTest::badLinesGarble);
        check.sentence("and starts that come too late or too early lose them", TermsTest::badStartsLoseUnits);
        check.sentence("tape is punched, rubbed out and run again", TermsTest::tapeIsRunAgain);
    }

    private static void whatIsTold(Check check) {
        check.sentence("it is told what is printed", TermsTest::toldWhatIsPrinted);
        check.sentence("how a character is coded", TermsTest::toldHowItIsCoded);
        check.sentence("how a text is punched with the fewest shifts", TermsTest::textsWithTheFewestShifts);
        check.sentence("what a garbled one could have been", TermsTest::toldWhatItCouldHaveBeen);
        check.sentence("how far two characters are from each other", TermsTest::toldHowFar);
        check.sentence("what a tape would print", TermsTest::toldWhatATapeWouldPrint);
    }

    // ---- what a printer is

    private static void charactersAreFiveUnits(Check check) {
        TapePrinter printer = new TapePrinter();
        for (int character = 1; character <= 54; character++) {
            int code = printer.code(character);
            int units = 0;
            for (int unit = 0; unit < 5; unit++) {
                units += code & 1 << unit;
            }
            check.same("the five units of " + character, units, code);
            check.tell(code != 0, character + " has no current in any unit");
        }
    }

    private static void twoShift(Check check) {
        for (int code = 0; code < 32; code++) {
            TapePrinter letters = new TapePrinter();
            letters.receive(code);
            check.same("by letters, behind " + code, letters.count(2), code == 27 ? 1 : 0);
            TapePrinter figures = new TapePrinter();
            Check.receiveAll(figures, 27, code);
            // A new line shifts as well, but its code is there to begin a line.
            check.same("by figures, behind " + code, figures.count(2), code == 31 || code == 2 ? 0 : 1);
        }
    }

    private static void fingersSetType(Check check) {
        for (int code = 0; code < 32; code++) {
            for (int late = -1; late <= 1; late++) {
                TapePrinter printer = new TapePrinter();
                printer.setLine(0, late, 0);
                int read = printer.would(code);
                String what = code + ", late by " + late;
                check.same(what, printer.receive(code), read);
                int due = printer.character(read, false);
                if (due >= 1 && due <= 53) {
                    check.same("the page behind " + what, Check.line(printer, 0), due);
                } else {
                    check.same("the page behind " + what, Check.line(printer, 0));
                }
            }
        }
    }

    private static void badLinesGarble(Check check) {
        for (int garble = 0; garble < 32; garble++) {
            TapePrinter printer = new TapePrinter();
            printer.setLine(0, 0, garble);
            for (int code = 0; code < 32; code++) {
                int due = 0;
                for (int unit = 1; unit < 32; unit *= 2) {
                    boolean current = (code & unit) != 0;
                    boolean turned = (garble & unit) != 0;
                    due += current != turned ? unit : 0;
                }
                check.same(code + ", of which " + garble + " is garbled", printer.would(code), due);
            }
        }
    }

    private static void badStartsLoseUnits(Check check) {
        TapePrinter late = new TapePrinter();
        TapePrinter early = new TapePrinter();
        late.setLine(0, 1, 0);
        early.setLine(0, -1, 0);
        for (int code = 0; code < 32; code++) {
            int units = late.would(code);
            check.same("the first unit is lost, " + code, late.would(code ^ 1), units);
            check.same("the other four are not, " + code, units * 2 + code % 2, code);
            units = early.would(code);
            check.same("the last unit is lost, " + code, early.would(code ^ 16), units);
            check.same("the other four are not, " + code, units / 2, code % 16);
        }
    }

    private static void tapeIsRunAgain(Check check) {
        TapePrinter printer = Made.withCodes(27, 1, 3, 2, 5);
        check.same("it is run", printer.run(5), 5);
        printer.rub(0);
        printer.rub(2);
        check.same("the page stays", Check.line(printer, 0), 27, 28);
        printer.wind(0);
        check.same("it is run again", printer.run(120), 5);
        check.same("as it was", Check.line(printer, 0), 27, 28);
        check.same("letters now, without what is rubbed out", Check.line(printer, 1), 3, 1);
        check.same("the line behind", Check.line(printer, 2), 3);
        printer.punch(6);
        printer.wind(4);
        check.same("it is run from amid it", printer.run(120), 2);
        check.same("the line behind", Check.line(printer, 2), 3, 3, 4);
    }

    // ---- what is told

    private static void toldWhatIsPrinted(Check check) {
        TapePrinter printer = new TapePrinter();
        for (int character = 1; character <= 26; character++) {
            printer.receive(printer.code(character));
        }
        Check.receiveAll(printer, 4, 2, 27);
        for (int character = 27; character <= 52; character++) {
            printer.receive(printer.code(character));
        }
        check.same("letters and a blank", printer.length(0), 27);
        for (int place = 0; place < 26; place++) {
            check.same("a letter", printer.page(0, place), place + 1);
            check.same("a figure", printer.page(1, place), place + 27);
        }
        check.same("the blank", printer.page(0, 26), 53);
        check.same("figures", printer.length(1), 26);
    }

    private static void toldHowItIsCoded(Check check) {
        TapePrinter printer = new TapePrinter();
        for (int character = 1; character <= 54; character++) {
            boolean isFigure = character >= 27 && character <= 52;
            int code = printer.code(character);
            check.same("what the code of " + character + " prints", printer.character(code, isFigure), character);
        }
    }

    private static void textsWithTheFewestShifts(Check check) {
        int[][] ahead = {{}, {27}, {27, 4}, {27, 2}, {27, 1, 31}};
        for (int[] codes : ahead) {
            for (int number = 0; number < 4 * 4 * 4 * 4; number++) {
                int[] text = new int[4];
                for (int k = 0; k < text.length; k++) {
                    text[k] = KINDS[number >> 2 * k & 3];
                }
                textWithTheFewestShifts(check, false, codes, text);
                textWithTheFewestShifts(check, true, codes, text);
            }
        }
    }

    private static void textWithTheFewestShifts(Check check, boolean unshifts, int[] ahead, int[] text) {
        TapePrinter printer = Made.withCodes(ahead);
        printer.setUnshift(unshifts);
        String what = "ahead " + Arrays.toString(ahead) + ", text " + Arrays.toString(text)
                + (unshifts ? ", with unshift" : "");
        int punched = 0;
        for (int character : text) {
            punched += printer.type(character);
        }
        check.same("what is punched, " + what, printer.count(4), ahead.length + punched);
        check.same("the fewest, " + what, punched, fewestCodes(unshifts, figuresBehind(unshifts, ahead), text));
        check.same("what it prints, " + what, printedFrom(printer, ahead.length), text);
    }

    private static boolean figuresBehind(boolean unshifts, int... codes) {
        TapePrinter printer = new TapePrinter();
        printer.setUnshift(unshifts);
        Check.receiveAll(printer, codes);
        return printer.count(2) == 1;
    }

    /** How few codes print a text, of all ways to put shifts ahead of its characters. */
    private static int fewestCodes(boolean unshifts, boolean figuresAhead, int... text) {
        // The fewest codes that end with the shift letters, and those that end with figures.
        int letters = figuresAhead ? 1 : 0;
        int figures = figuresAhead ? 0 : 1;
        for (int character : text) {
            if (character <= 26) {
                letters++;
                figures = letters + 1;
            } else if (character <= 52) {
                figures++;
                letters = figures + 1;
            } else if (character == 54 || unshifts) {
                letters = Math.min(letters, figures) + 1;
                figures = letters + 1;
            } else {
                letters++;
                figures++;
            }
        }
        return Math.min(letters, figures);
    }

    private static int[] printedFrom(TapePrinter printer, int first) {
        int[] printed = new int[120];
        int codes = printer.count(4);
        int many = 0;
        for (int place = first; place < codes; place++) {
            int character = printer.prints(place);
            if (character != 0) {
                printed[many] = character;
                many++;
            }
        }
        return Arrays.copyOf(printed, many);
    }

    private static void toldWhatItCouldHaveBeen(Check check) {
        for (int shift : new int[] {31, 27}) {
            for (int code = 0; code < 32; code++) {
                TapePrinter printer = new TapePrinter();
                printer.receive(shift);
                int others = 0;
                for (int unit = 0; unit < 5; unit++) {
                    printer.setLine(1, 0, 1 << unit);
                    int garbled = printer.would(code);
                    boolean isFigures = shift == 27;
                    others += printer.character(garbled, isFigures) != printer.character(code, isFigures) ? 1 : 0;
                }
                check.same("doubts(" + code + ") behind " + shift, printer.doubts(code), others);
            }
        }
    }

    private static void toldHowFar(Check check) {
        for (int a = 1; a <= 54; a++) {
            TapePrinter printer = new TapePrinter();
            for (int b = 1; b <= 54; b++) {
                int units = 0;
                for (int left = printer.code(a) ^ printer.code(b); left > 0; left /= 2) {
                    units += left % 2;
                }
                check.same("apart(" + a + ", " + b + ")", printer.apart(a, b), units);
            }
        }
    }

    private static void toldWhatATapeWouldPrint(Check check) {
        for (int unshifts = 0; unshifts < 2; unshifts++) {
            TapePrinter printer = new TapePrinter();
            printer.setUnshift(unshifts == 1);
            for (int k = 0; k < 54; k++) {
                printer.type(k * 17 % 54 + 1);
                if (k == 30) {
                    printer.type(54);
                }
            }
            int[] told = printedFrom(printer, 0);
            check.same("all that was typed", told.length, 55);
            printer.run(120);
            check.same("as it is printed then", pageOf(printer), told);
        }
    }

    /** The characters of a page, with those of the new lines between its lines. */
    private static int[] pageOf(TapePrinter printer) {
        int lines = printer.count(0);
        int[] page = new int[printer.count(1) + lines - 1];
        int many = 0;
        for (int line = 0; line < lines; line++) {
            if (line > 0) {
                page[many] = 54;
                many++;
            }
            int[] characters = Check.line(printer, line);
            System.arraycopy(characters, 0, page, many, characters.length);
            many += characters.length;
        }
        return page;
    }

    // ---- a code comes, the line

    private static void eachCodeInEachState(Check check) {
        for (int code = 0; code < 32; code++) {
            for (int state = 0; state < 8; state++) {
                eachCodeIn(check, code, (state & 1) != 0, (state & 2) != 0, (state & 4) != 0);
            }
        }
    }

    private static void eachCodeIn(Check check, int code, boolean figures, boolean unshifts, boolean isFull) {
        TapePrinter printer = Made.withLine(isFull ? 40 : 39);
        printer.setUnshift(unshifts);
        printer.receive(figures ? 27 : 31);
        int came = printer.count(6);
        check.same("code", printer.receive(code), code);
        boolean toLetters = code == 31 || code == 2 || code == 4 && unshifts;
        boolean isFigures = code == 27 || figures && !toLetters;
        boolean setsType = code != 0 && code != 31 && code != 27 && code != 2 && code != 8;
        String what = code + (figures ? ", figures" : ", letters") + (unshifts ? ", unshift" : "")
                + (isFull ? ", a full line" : "");
        check.same(what, Check.counts(printer), code == 2 ? 2 : 1, isFull || setsType ? 40 : 39,
                isFigures ? 1 : 0, 0, 0, 0, came + 1, 0, isFull && setsType ? 1 : 0, unshifts ? 1 : 0,
                code == 8 ? 1 : 0);
        if (setsType && !isFull) {
            check.same("what is printed, " + what, printer.page(0, 39), printer.character(code, figures));
        }
    }

    private static void garbledAsACode(Check check) {
        TapePrinter printer = new TapePrinter();
        for (int garble = 0; garble < 32; garble++) {
            printer.setLine(0, 0, garble);
            check.same("no unit but those of " + garble, printer.would(0), garble);
            check.same("all units but those of " + garble, printer.would(31), 31 - garble);
        }
    }
}
