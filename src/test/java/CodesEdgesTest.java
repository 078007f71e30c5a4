/** The edges of promises 2 to 5, code, character, apart and doubts: a test for each sentence that names one. */
public final class CodesEdgesTest {
    private static final int[] BAD_CHARACTERS = {0, 55, -1, 56, Integer.MIN_VALUE, Integer.MAX_VALUE};
    private static final int[] BAD_CODES = {-1, 32, -31, 63, Integer.MIN_VALUE, Integer.MAX_VALUE};

    public static void main(String[] args) {
        Check check = new Check();
        check.sentence("Promise 2, Returns its code.", CodesEdgesTest::codeOfTheLeastAndTheGreatest);
        check.sentence("Promise 2, Throws `IndexOutOfBoundsException` if character is not 1 to 54",
                CodesEdgesTest::codeRefuses);
        check.sentence("Promise 3, Returns the character that it prints; 0 for none.",
                CodesEdgesTest::characterOfTheLeastAndTheGreatest);
        check.sentence("Promise 3, `isFigures`: whether the shift is figures", CodesEdgesTest::characterBySomeShift);
        check.sentence("Promise 3, Throws `IndexOutOfBoundsException` if code is not 0 to 31",
                CodesEdgesTest::characterRefuses);
        check.sentence("Promise 4, Returns in how many units their codes differ.", CodesEdgesTest::apartIs0To5);
        check.sentence("Promise 4, Throws `IndexOutOfBoundsException` if a or b is not 1 to 54",
                CodesEdgesTest::apartRefuses);
        check.sentence("Promise 5, Returns how many other codes differ from it in one unit, and print another character",
                CodesEdgesTest::doubtsAre4Or5);
        check.sentence("Promise 5, by the shift that is now", CodesEdgesTest::doubtsByTheShiftThatIsNow);
        check.sentence("Promise 5, (0 counts as one)", CodesEdgesTest::noneCountsAsACharacter);
        check.sentence("Promise 5, Throws `IndexOutOfBoundsException` if code is not 0 to 31",
                CodesEdgesTest::doubtsRefuses);
        check.end();
    }

    private static void codeOfTheLeastAndTheGreatest(Check check) {
        TapePrinter printer = new TapePrinter();
        int[] characters = {1, 2, 26, 27, 28, 52, 53, 54};
        int[] due = {1, 3, 30, 1, 3, 30, 4, 2};
        for (int k = 0; k < characters.length; k++) {
            check.same("code(" + characters[k] + ")", printer.code(characters[k]), due[k]);
        }
        printer.receive(27);
        check.same("the shift does not matter", printer.code(1), 1);
        Twins.neverChanges(check, "code(54)", p -> p.code(54));
    }

    private static void codeRefuses(Check check) {
        for (int bad : BAD_CHARACTERS) {
            Twins.neverOutOfBounds(check, "code(" + bad + ")", p -> p.code(bad));
        }
    }

    private static void characterOfTheLeastAndTheGreatest(Check check) {
        TapePrinter printer = new TapePrinter();
        int[] codes = {0, 1, 2, 4, 8, 27, 30, 31};
        int[] letters = {0, 1, 54, 53, 0, 0, 26, 0};
        int[] figures = {0, 27, 54, 53, 0, 0, 52, 0};
        for (int k = 0; k < codes.length; k++) {
            check.same(codes[k] + " by letters", printer.character(codes[k], false), letters[k]);
            check.same(codes[k] + " by figures", printer.character(codes[k], true), figures[k]);
        }
        Twins.neverChanges(check, "character(31, true)", p -> p.character(31, true));
    }

    private static void characterBySomeShift(Check check) {
        TapePrinter printer = new TapePrinter();
        check.same("figures, while the printer has letters", printer.character(3, true), 28);
        printer.receive(27);
        check.same("letters, while the printer has figures", printer.character(3, false), 2);
        Twins.neverChanges(check, "character(27, false)", p -> p.character(27, false));
    }

    private static void characterRefuses(Check check) {
        for (int bad : BAD_CODES) {
            Twins.neverOutOfBounds(check, "character(" + bad + ", false)", p -> p.character(bad, false));
            Twins.neverOutOfBounds(check, "character(" + bad + ", true)", p -> p.character(bad, true));
        }
    }

    private static void apartIs0To5(Check check) {
        TapePrinter printer = new TapePrinter();
        check.same("one character", printer.apart(54, 54), 0);
        check.same("a letter and its figure", printer.apart(26, 52), 0);
        check.same("1 and 30 differ in all units", printer.apart(1, 52), 5);
        check.same("30 and 1 differ in all units", printer.apart(26, 27), 5);
        check.same("1 and 4", printer.apart(1, 53), 2);
        check.same("the last unit alone: 1 and 17", printer.apart(1, 14), 1);
        check.same("the first unit alone: 2 and 3", printer.apart(54, 2), 1);
        Twins.neverChanges(check, "apart(1, 54)", p -> p.apart(1, 54));
    }

    private static void apartRefuses(Check check) {
        for (int bad : BAD_CHARACTERS) {
            Twins.neverOutOfBounds(check, "apart(" + bad + ", 1)", p -> p.apart(bad, 1));
            Twins.neverOutOfBounds(check, "apart(1, " + bad + ")", p -> p.apart(1, bad));
            Twins.neverOutOfBounds(check, "apart(54, " + bad + ")", p -> p.apart(54, bad));
            Twins.neverOutOfBounds(check, "apart(" + bad + ", " + bad + ")", p -> p.apart(bad, bad));
        }
    }

    private static void doubtsAre4Or5(Check check) {
        TapePrinter printer = new TapePrinter();
        for (int code = 0; code < 32; code++) {
            // 0 and 8, as 27 and 31, differ in one unit, and none of them prints.
            boolean pair = code == 0 || code == 8 || code == 27 || code == 31;
            check.same("doubts(" + code + ")", printer.doubts(code), pair ? 4 : 5);
        }
        Twins.neverChanges(check, "doubts(31)", p -> p.doubts(31));
    }

    /** By figures each code has just as many as by letters, as no two codes print one figure. */
    private static void doubtsByTheShiftThatIsNow(Check check) {
        TapePrinter printer = new TapePrinter();
        printer.receive(27);
        for (int code = 0; code < 32; code++) {
            boolean pair = code == 0 || code == 8 || code == 27 || code == 31;
            check.same("doubts(" + code + ") by figures", printer.doubts(code), pair ? 4 : 5);
        }
        Check.receiveAll(printer, 31);
        check.same("doubts(1) by letters anew", printer.doubts(1), 5);
    }

    private static void noneCountsAsACharacter(Check check) {
        TapePrinter printer = new TapePrinter();
        check.same("1: 0 is one of 0, 3, 5, 9, 17", printer.doubts(1), 5);
        check.same("26: 27 is one of 27, 24, 30, 18, 10", printer.doubts(26), 5);
        check.same("0: none itself, 8 is the same", printer.doubts(0), 4);
        check.same("31: none itself, 27 is the same", printer.doubts(31), 4);
        check.same("2: 0 is one of 3, 0, 6, 10, 18", printer.doubts(2), 5);
    }

    private static void doubtsRefuses(Check check) {
        for (int bad : BAD_CODES) {
            Twins.neverOutOfBounds(check, "doubts(" + bad + ")", p -> p.doubts(bad));
        }
    }
}
