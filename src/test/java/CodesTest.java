/** Promises 2 to 5: code, character, apart, doubts. */
public final class CodesTest {
    private static final int[] LETTER_CODES = {
        1, 3, 5, 6, 7, 9, 10, 11, 12, 13, 14, 15, 16, 17, 18, 19, 20, 21, 22, 23, 24, 25, 26, 28, 29, 30
    };

    private static final int[] BAD_CHARACTERS = {
        0, 55, -1, 56, 100, Integer.MIN_VALUE, Integer.MAX_VALUE
    };

    private static final int[] BAD_CODES = {
        -1, 32, -32, 33, 64, Integer.MIN_VALUE, Integer.MAX_VALUE
    };

    public static void main(String[] args) {
        Check check = new Check();
        codes(check);
        characters(check);
        apart(check);
        doubts(check);
        check.end();
    }

    private static void codes(Check check) {
        TapePrinter printer = new TapePrinter();
        for (int k = 0; k < 26; k++) {
            check.same("code of letter " + (k + 1), printer.code(k + 1), LETTER_CODES[k]);
            check.same("code of figure " + (k + 27), printer.code(k + 27), LETTER_CODES[k]);
        }
        check.same("code of a blank", printer.code(53), 4);
        check.same("code of a new line", printer.code(54), 2);
        for (int bad : BAD_CHARACTERS) {
            check.outOfBounds("code(" + bad + ")", printer, () -> printer.code(bad));
        }
    }

    private static void characters(Check check) {
        TapePrinter printer = new TapePrinter();
        for (int k = 0; k < 26; k++) {
            int code = LETTER_CODES[k];
            check.same("letter of code " + code, printer.character(code, false), k + 1);
            check.same("figure of code " + code, printer.character(code, true), k + 27);
        }
        for (boolean isFigures : new boolean[] {false, true}) {
            check.same("character of 4", printer.character(4, isFigures), 53);
            check.same("character of 2", printer.character(2, isFigures), 54);
            for (int none : new int[] {0, 8, 27, 31}) {
                check.same("character of " + none, printer.character(none, isFigures), 0);
            }
            for (int bad : BAD_CODES) {
                check.outOfBounds("character(" + bad + ")", printer, () -> printer.character(bad, isFigures));
            }
        }
    }

    private static void apart(Check check) {
        TapePrinter printer = new TapePrinter();
        check.same("apart(1, 1)", printer.apart(1, 1), 0);
        check.same("apart(1, 27)", printer.apart(1, 27), 0);
        check.same("apart(1, 2)", printer.apart(1, 2), 1);
        check.same("apart(53, 54)", printer.apart(53, 54), 2);
        check.same("apart(1, 26): 00001, 11110", printer.apart(1, 26), 5);
        check.same("apart(3, 39): 00101, 10000", printer.apart(3, 39), 3);
        check.same("apart(39, 3): 10000, 00101", printer.apart(39, 3), 3);
        check.same("apart(54, 52): 00010, 11110", printer.apart(54, 52), 3);
        for (int bad : BAD_CHARACTERS) {
            check.outOfBounds("apart(" + bad + ", 1)", printer, () -> printer.apart(bad, 1));
            check.outOfBounds("apart(54, " + bad + ")", printer, () -> printer.apart(54, bad));
            check.outOfBounds("apart(" + bad + ", " + bad + ")", printer, () -> printer.apart(bad, bad));
        }
    }

    private static void doubts(Check check) {
        TapePrinter printer = new TapePrinter();
        // 1, 2, 4 and 16 print, 8 rings the bell and prints as little as 0.
        check.same("doubts(0)", printer.doubts(0), 4);
        check.same("doubts(8): 9, 10, 12, 24, not 0", printer.doubts(8), 4);
        check.same("doubts(31): 30, 29, 23, 15, not 27", printer.doubts(31), 4);
        check.same("doubts(27): 26, 25, 19, 11, not 31", printer.doubts(27), 4);
        check.same("doubts(5)", printer.doubts(5), 5);
        check.same("doubts(4)", printer.doubts(4), 5);
        check.same("doubts(2)", printer.doubts(2), 5);
        printer.receive(27);
        check.same("doubts(0) with figures", printer.doubts(0), 4);
        check.same("doubts(30) with figures", printer.doubts(30), 5);
        for (int bad : BAD_CODES) {
            check.outOfBounds("doubts(" + bad + ")", printer, () -> printer.doubts(bad));
        }
    }
}
