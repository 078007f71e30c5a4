/** The edges of promises 20 to 22, wrong, idle and prints: a test for each sentence that names one. */
public final class AheadEdgesTest {
    private static final int[] NO_PLACES = {-1, -120, 120, 121, Integer.MIN_VALUE, Integer.MAX_VALUE};

    public static void main(String[] args) {
        Check check = new Check();
        wrong(check);
        idle(check);
        prints(check);
        check.end();
    }

    private static void wrong(Check check) {
        check.sentence("Promise 20, Returns how many codes of those from where the reader stands on",
                AheadEdgesTest::wrongFromTheReaderOn);
        check.sentence("Promise 20, would be read as another code", AheadEdgesTest::wrongIfAnotherIsRead);
        check.sentence("Promise 20, if the tape was run to its end now", AheadEdgesTest::wrongGoesRoundTheTable);
        check.sentence("Promise 20, (nothing is changed)", AheadEdgesTest::wrongChangesNothing);
    }

    private static void idle(Check check) {
        check.sentence("Promise 21, Returns how many shifts on the tape do nothing", AheadEdgesTest::idleIs0To120);
        check.sentence("Promise 21, till the next code of 31, 27, 2", AheadEdgesTest::idleTillTheNextCode);
        check.sentence("Promise 21, or, if a blank unshifts now, 4", AheadEdgesTest::idleTillABlankThatUnshifts);
        check.sentence("Promise 21, or the end of the tape", AheadEdgesTest::idleTillTheEnd);
        check.sentence("Promise 21, nothing is printed for which the shift matters",
                AheadEdgesTest::idleIfNothingMatters);
        check.sentence("Promise 21, or which shift to what is so already", AheadEdgesTest::idleIfItIsSoAlready);
        check.sentence("Promise 21, for a tape that is run from its beginning on, with the shift letters",
                AheadEdgesTest::idleFromTheBeginning);
        check.sentence("Promise 21, over a line that is good", AheadEdgesTest::idleIsOfAGoodLine);
    }

    private static void prints(Check check) {
        check.sentence("Promise 22, `place`: a place of the tape", AheadEdgesTest::printsAtTheFirstAndTheLast);
        check.sentence("Promise 22, if it is run from its beginning on, with the shift letters",
                AheadEdgesTest::printsFromTheBeginning);
        check.sentence("Promise 22, over a line that is good", AheadEdgesTest::printsIsOfAGoodLine);
        check.sentence("Promise 22, 0 for none", AheadEdgesTest::printsNone);
        check.sentence("Promise 22, Throws `IndexOutOfBoundsException` if there is no such place",
                AheadEdgesTest::printsRefuses);
    }

    // ---- wrong

    /** A printer whose line turns a unit of each code round. */
    private static TapePrinter garblingAll(TapePrinter printer) {
        for (int place = 0; place < 16; place++) {
            printer.setLine(place, 0, 16);
        }
        return printer;
    }

    private static void wrongFromTheReaderOn(Check check) {
        TapePrinter none = garblingAll(new TapePrinter());
        check.same("no tape", none.wrong(), 0);
        TapePrinter printer = garblingAll(Made.withTape(120, 1));
        check.same("the greatest", printer.wrong(), 120);
        printer.wind(1);
        check.same("one fewer", printer.wrong(), 119);
        printer.wind(119);
        check.same("the last one", printer.wrong(), 1);
        printer.wind(120);
        check.same("the end", printer.wrong(), 0);
        printer.wind(0);
        printer.run(118);
        check.same("behind a run", printer.wrong(), 2);
        printer.run(120);
        check.same("at the end of a run", printer.wrong(), 0);
    }

    private static void wrongIfAnotherIsRead(Check check) {
        TapePrinter printer = Made.withCodes(31, 0, 31, 0, 10);
        printer.setLine(0, -1, 0);
        printer.setLine(1, 1, 0);
        check.same("31 that is early and 0 that is late are the same", printer.wrong(), 0);
        printer.setLine(2, 1, 0);
        check.same("31 that is late is another", printer.wrong(), 1);
        printer.setLine(3, -1, 0);
        check.same("0 that is early is another", printer.wrong(), 2);
        printer.setLine(4, 1, 30);
        check.same("garbled and late, read as itself", printer.wrong(), 2);
        printer.setPlay(1);
        check.same("garbled, in the play", printer.wrong(), 1);
    }

    private static void wrongGoesRoundTheTable(Check check) {
        TapePrinter printer = Made.withTape(18, 0);
        printer.setLine(15, 0, 1);
        printer.setLine(0, 0, 1);
        check.same("at 0, 15 and 16", printer.wrong(), 3);
        printer.receive(0);
        check.same("at 15 and 16", printer.wrong(), 2);
        Check.receiveMany(printer, 14, 0);
        check.same("at 15, 16, 31 and 32", printer.wrong(), 4);
        printer.receive(0);
        check.same("at 16, 31, 32", printer.wrong(), 3);
        printer.wind(17);
        check.same("it begins with the code that comes now", printer.wrong(), 1);
        printer.receive(0);
        check.same("at 17 alone", printer.wrong(), 0);
    }

    private static void wrongChangesNothing(Check check) {
        Twins.neverChanges(check, "wrong", TapePrinter::wrong);
        Twins.unchanged(check, "wrong, all garbled", () -> garblingAll(Made.withFullTape()), TapePrinter::wrong);
    }

    // ---- idle

    private static int idle(int... codes) {
        return Made.withCodes(codes).idle();
    }

    private static int idleWithUnshift(int... codes) {
        TapePrinter printer = Made.withCodes(codes);
        printer.setUnshift(true);
        return printer.idle();
    }

    private static void idleIs0To120(Check check) {
        check.same("no tape", idle(), 0);
        check.same("one", idle(31), 1);
        check.same("one", idle(27), 1);
        check.same("the greatest", Made.withTape(120, 31).idle(), 120);
        check.same("the greatest", Made.withTape(120, 27).idle(), 120);
        check.same("a full tape without shifts", Made.withTape(120, 1).idle(), 0);
        check.same("for both reasons it counts once", idle(31, 2), 1);
        Twins.neverChanges(check, "idle", TapePrinter::idle);
    }

    private static void idleTillTheNextCode(Check check) {
        check.same("31", idle(27, 31, 1), 1);
        check.same("27, the second one is so already", idle(27, 27, 1), 2);
        check.same("2", idle(27, 2, 1), 1);
        check.same("a figure ahead of 31", idle(27, 1, 31, 1), 0);
        check.same("a figure ahead of 2", idle(27, 1, 2, 1), 0);
        check.same("31 ahead of 2", idle(27, 1, 31, 2, 1), 1);
        check.same("0 and 8 are no end", idle(27, 0, 8, 1), 0);
    }

    private static void idleTillABlankThatUnshifts(Check check) {
        check.same("it unshifts", idleWithUnshift(27, 4, 1), 1);
        check.same("it does not", idle(27, 4, 1), 0);
        check.same("a figure ahead of it", idleWithUnshift(27, 1, 4, 1), 0);
        check.same("31 ahead of it", idleWithUnshift(27, 1, 31, 4, 1), 1);
        check.same("31 behind it", idleWithUnshift(27, 1, 4, 31, 1), 1);
        check.same("27 behind it", idleWithUnshift(27, 1, 4, 27, 1), 0);
        TapePrinter printer = new TapePrinter();
        printer.setUnshift(true);
        Check.punchAll(printer, 27, 4, 1);
        printer.setUnshift(false);
        check.same("as it is now, not as it was", printer.idle(), 0);
    }

    private static void idleTillTheEnd(Check check) {
        check.same("27 at the end", idle(1, 27), 1);
        check.same("31 at the end", idle(27, 1, 31), 1);
        check.same("the last code matters", idle(27, 0, 1), 0);
        TapePrinter printer = Made.withTape(118, 1);
        printer.punch(27);
        check.same("ahead of the end", printer.idle(), 1);
        printer.punch(30);
        check.same("at the end of a full tape", printer.idle(), 0);
        printer.rub(119);
        check.same("at the end of a full tape, rubbed out", printer.idle(), 2);
        TapePrinter first = Made.withCodes(27);
        for (int k = 0; k < 118; k++) {
            first.punch(0);
        }
        check.same("the whole tape without one", first.idle(), 1);
        first.punch(1);
        check.same("the last one of 120 is for the first one", first.idle(), 0);
    }

    private static void idleIfNothingMatters(Check check) {
        check.same("a blank, nothing, a bell", idle(27, 4, 0, 8), 1);
        check.same("the smallest code that matters", idle(27, 1), 0);
        check.same("the greatest code that matters", idle(27, 30), 0);
        check.same("the same for 31", idle(27, 1, 31, 4, 0, 8), 1);
        check.same("the same for 31", idle(27, 1, 31, 4, 0, 8, 30), 0);
    }

    private static void idleIfItIsSoAlready(Check check) {
        check.same("letters at first", idle(31, 1), 1);
        check.same("letters behind 31", idle(27, 1, 31, 1, 31, 1), 1);
        check.same("letters behind 2", idle(27, 1, 2, 31, 1), 1);
        check.same("figures behind 27", idle(27, 1, 27, 1), 1);
        check.same("figures behind 27, which does nothing", idle(27, 27, 1), 2);
        check.same("to and fro", idle(27, 1, 31, 1, 27, 1, 31, 1), 0);
        check.same("figures behind a blank", idle(27, 1, 4, 27, 1), 1);
    }

    private static void idleFromTheBeginning(Check check) {
        TapePrinter printer = new TapePrinter();
        printer.receive(27);
        Check.punchAll(printer, 27, 1, 31, 1, 31, 1);
        check.same("the printer has figures", printer.idle(), 1);
        printer.wind(4);
        check.same("the reader stands ahead of the last one", printer.idle(), 1);
        printer.wind(6);
        check.same("the reader stands at the end", printer.idle(), 1);
    }

    private static void idleIsOfAGoodLine(Check check) {
        TapePrinter printer = Made.withCodes(27, 1, 0, 31, 1);
        for (int place = 0; place < 16; place++) {
            printer.setLine(place, place % 2 == 0 ? 9 : -9, 31);
        }
        check.same("none is idle", printer.idle(), 0);
        printer.rub(0);
        check.same("both are", printer.idle(), 2);
    }

    // ---- prints

    private static void printsAtTheFirstAndTheLast(Check check) {
        TapePrinter printer = Made.withCodes(1);
        check.same("the only one", printer.prints(0), 1);
        for (int k = 0; k < 118; k++) {
            printer.punch(27);
        }
        printer.punch(30);
        check.same("the first one", printer.prints(0), 1);
        check.same("the last one of 120, by figures", printer.prints(119), 52);
        TapePrinter letters = Made.withTape(120, 1);
        check.same("the last one that has room in a line", letters.prints(39), 1);
        check.same("the one behind it, as the tape prints it", letters.prints(40), 1);
        check.same("the last one", letters.prints(119), 1);
        Twins.unchanged(check, "prints(119)", Made::withFullTape, p -> p.prints(119));
    }

    private static void printsFromTheBeginning(Check check) {
        TapePrinter printer = new TapePrinter();
        printer.receive(27);
        Check.punchAll(printer, 1, 27, 1, 4, 1, 31, 1, 27, 1, 2, 1);
        check.same("the printer has figures", printer.prints(0), 1);
        check.same("behind 27", printer.prints(2), 27);
        check.same("behind a blank", printer.prints(4), 27);
        check.same("behind 31", printer.prints(6), 1);
        check.same("behind 2", printer.prints(10), 1);
        printer.wind(2);
        check.same("the reader stands behind 27", printer.prints(2), 27);
        printer.setUnshift(true);
        check.same("behind a blank that unshifts now", printer.prints(4), 1);
        printer.setUnshift(false);
        check.same("behind a blank that does no more", printer.prints(4), 27);
    }

    private static void printsIsOfAGoodLine(Check check) {
        TapePrinter printer = Made.withCodes(27, 30);
        for (int place = 0; place < 16; place++) {
            printer.setLine(place, -9, 31);
        }
        check.same("27", printer.prints(0), 0);
        check.same("a figure", printer.prints(1), 52);
        TapePrinter full = Made.withFullPage();
        check.same("the page is full", full.prints(0), 26);
    }

    private static void printsNone(Check check) {
        TapePrinter printer = Made.withCodes(0, 31, 8, 27, 0, 27, 8, 31, 4, 2);
        for (int place = 0; place < 8; place++) {
            check.same("place " + place, printer.prints(place), 0);
        }
        check.same("a blank", printer.prints(8), 53);
        check.same("a new line", printer.prints(9), 54);
        printer.rub(9);
        check.same("rubbed out", printer.prints(9), 0);
    }

    private static void printsRefuses(Check check) {
        for (int bad : NO_PLACES) {
            Twins.neverOutOfBounds(check, "prints(" + bad + ")", p -> p.prints(bad));
        }
        for (int bad : new int[] {-1, 0, 1}) {
            Twins.outOfBounds(check, "prints(" + bad + ") of none", TapePrinter::new, p -> p.prints(bad));
        }
        Twins.outOfBounds(check, "prints(1) of one", () -> Made.withTape(1, 5), p -> p.prints(1));
        Twins.outOfBounds(check, "prints(119) of 119", () -> Made.withTape(119, 5), p -> p.prints(119));
    }
}
