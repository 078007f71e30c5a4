/** The edges of promises 1, 16 to 18 and 23, a new object and the page: a test for each sentence that names one. */
public final class PageEdgesTest {
    private static final int[] NO_LINES = {-1, -20, 20, 21, Integer.MIN_VALUE, Integer.MAX_VALUE};
    private static final int[] NO_PLACES = {-1, -40, 40, 41, Integer.MIN_VALUE, Integer.MAX_VALUE};

    public static void main(String[] args) {
        Check check = new Check();
        check.sentence("Promise 1, Creates a printer with an empty page", PageEdgesTest::anEmptyPage);
        check.sentence("Promise 1, and an empty tape", PageEdgesTest::anEmptyTape);
        check.sentence("Promise 16, `line`: a line, from 0", PageEdgesTest::linesFrom0ToTheLast);
        check.sentence("Promise 16, `place`: a place in it, from 0", PageEdgesTest::placesFrom0ToTheLast);
        check.sentence("Promise 16, Throws `IndexOutOfBoundsException` if there is no such line",
                PageEdgesTest::pageRefusesLines);
        check.sentence("Promise 16, or place", PageEdgesTest::pageRefusesPlaces);
        check.sentence("Promise 17, Returns how many characters it has.", PageEdgesTest::lengthIs0To40);
        check.sentence("Promise 17, Throws `IndexOutOfBoundsException` if there is no such line",
                PageEdgesTest::lengthRefuses);
        counts(check);
        check.sentence("Promise 23, Returns the mean number of characters of a line.", PageEdgesTest::meanIs0To40);
        check.end();
    }

    private static void counts(Check check) {
        check.sentence("Promise 18, 0 lines", PageEdgesTest::countsLines);
        check.sentence("Promise 18, 1 characters of the page", PageEdgesTest::countsCharacters);
        check.sentence("Promise 18, 2 1 if the shift is figures, else 0", PageEdgesTest::countsTheShift);
        check.sentence("Promise 18, 3 the play", PageEdgesTest::countsThePlay);
        check.sentence("Promise 18, 4 codes of the tape", PageEdgesTest::countsCodesOfTheTape);
        check.sentence("Promise 18, 5 where the reader stands", PageEdgesTest::countsTheReader);
        check.sentence("Promise 18, 6 codes that came in all", PageEdgesTest::countsCodesThatCame);
        check.sentence("Promise 18, 7 those of them that were read as another code", PageEdgesTest::countsOtherCodes);
        check.sentence("Promise 18, 8 characters that were lost in all (for which a line had no room)",
                PageEdgesTest::countsLostCharacters);
        check.sentence("Promise 18, 9 1 if a blank unshifts, else 0", PageEdgesTest::countsTheUnshift);
        check.sentence("Promise 18, 10 times that the bell rang in all", PageEdgesTest::countsTheBell);
        check.sentence("Promise 18, Throws `IndexOutOfBoundsException` if what is not 0 to 10",
                PageEdgesTest::countRefuses);
    }

    // ---- a new object

    private static void anEmptyPage(Check check) {
        TapePrinter printer = new TapePrinter();
        check.same("counts", Check.counts(printer), 1, 0, 0, 0, 0, 0, 0, 0, 0, 0, 0);
        check.same("its one line", printer.length(0), 0);
        check.same("the mean", printer.mean(), 0.0);
        Twins.outOfBounds(check, "page(0, 0)", TapePrinter::new, p -> p.page(0, 0));
        Twins.outOfBounds(check, "length(1)", TapePrinter::new, p -> p.length(1));
        Made.withFullPage();
        check.same("another one behind a full one", new TapePrinter().count(1), 0);
    }

    private static void anEmptyTape(Check check) {
        TapePrinter printer = new TapePrinter();
        check.same("codes", printer.count(4), 0);
        check.same("the reader", printer.wind(0), 0);
        check.same("wrong", printer.wrong(), 0);
        check.same("idle", printer.idle(), 0);
        check.same("run", printer.run(120), 0);
        Twins.outOfBounds(check, "tape(0)", TapePrinter::new, p -> p.tape(0));
        Twins.outOfBounds(check, "rub(0)", TapePrinter::new, p -> p.rub(0));
        Twins.outOfBounds(check, "prints(0)", TapePrinter::new, p -> p.prints(0));
        Twins.outOfBounds(check, "wind(1)", TapePrinter::new, p -> p.wind(1));
        Made.withFullTape();
        check.same("another one behind a full one", new TapePrinter().punch(0), 1);
    }

    // ---- page, length

    private static void linesFrom0ToTheLast(Check check) {
        TapePrinter printer = Made.withFullPage();
        check.same("the first one", printer.page(0, 0), 1);
        check.same("the last one", printer.page(19, 0), 20);
        check.same("the only one", Made.withLine(1).page(0, 0), 1);
        printer.receive(2);
        printer.receive(7);
        check.same("the first one, when one has gone", printer.page(0, 0), 2);
        check.same("the last one, when one has gone", printer.page(19, 0), 5);
    }

    private static void placesFrom0ToTheLast(Check check) {
        TapePrinter printer = Made.withLine(39);
        printer.receive(4);
        check.same("the first one", printer.page(0, 0), 1);
        check.same("the last one of letters", printer.page(0, 38), 1);
        check.same("the last one", printer.page(0, 39), 53);
        Twins.unchanged(check, "page(19, 39)", Made::withFullPage, p -> p.page(19, 39));
    }

    private static void pageRefusesLines(Check check) {
        for (int bad : NO_LINES) {
            Twins.neverOutOfBounds(check, "page(" + bad + ", 0)", p -> p.page(bad, 0));
            Twins.neverOutOfBounds(check, "page(" + bad + ", -1)", p -> p.page(bad, -1));
        }
        Twins.outOfBounds(check, "page(1, 0) of one", () -> Made.withFullLines(1), p -> p.page(1, 0));
        Twins.outOfBounds(check, "page(19, 0) of 19", () -> Made.withFullLines(19), p -> p.page(19, 0));
        Twins.outOfBounds(check, "page(20, 0) of 20", () -> Made.withFullLines(20), p -> p.page(20, 0));
        Twins.outOfBounds(check, "page(20, 0), one has gone", () -> Made.withFullLines(21), p -> p.page(20, 0));
        Twins.outOfBounds(check, "page(-1, 0), one has gone", () -> Made.withFullLines(21), p -> p.page(-1, 0));
    }

    private static void pageRefusesPlaces(Check check) {
        for (int bad : NO_PLACES) {
            Twins.neverOutOfBounds(check, "page(0, " + bad + ")", p -> p.page(0, bad));
        }
        Twins.outOfBounds(check, "page(0, 0) of none", TapePrinter::new, p -> p.page(0, 0));
        Twins.outOfBounds(check, "page(0, 1) of one", () -> Made.withLine(1), p -> p.page(0, 1));
        Twins.outOfBounds(check, "page(0, 39) of 39", () -> Made.withLine(39), p -> p.page(0, 39));
        Twins.outOfBounds(check, "page(0, 40) of 40, some lost", () -> Made.withLine(42), p -> p.page(0, 40));
        Twins.outOfBounds(check, "page(19, 0) of a line begun anew", PageEdgesTest::aLineBegunAnew,
                p -> p.page(19, 0));
        Twins.outOfBounds(check, "page(19, 39) of a line begun anew", PageEdgesTest::aLineBegunAnew,
                p -> p.page(19, 39));
    }

    private static TapePrinter aLineBegunAnew() {
        TapePrinter printer = Made.withFullPage();
        printer.receive(2);
        return printer;
    }

    private static void lengthIs0To40(Check check) {
        for (int length : new int[] {0, 1, 39, 40}) {
            check.same("length", Made.withLine(length).length(0), length);
        }
        check.same("some are lost", Made.withLine(41).length(0), 40);
        TapePrinter printer = Made.withFullPage();
        check.same("the first line", printer.length(0), 40);
        check.same("the last line", printer.length(19), 40);
        check.same("a line begun anew", aLineBegunAnew().length(19), 0);
        check.same("the one ahead of it", aLineBegunAnew().length(18), 40);
        Twins.unchanged(check, "length(19)", Made::withFullPage, p -> p.length(19));
    }

    private static void lengthRefuses(Check check) {
        for (int bad : NO_LINES) {
            Twins.neverOutOfBounds(check, "length(" + bad + ")", p -> p.length(bad));
        }
        Twins.outOfBounds(check, "length(1) of none but one", TapePrinter::new, p -> p.length(1));
        Twins.outOfBounds(check, "length(19) of 19", () -> Made.withFullLines(19), p -> p.length(19));
        Twins.outOfBounds(check, "length(20) of 20", () -> Made.withFullLines(20), p -> p.length(20));
        Twins.outOfBounds(check, "length(20), one has gone", () -> Made.withFullLines(21), p -> p.length(20));
        Twins.outOfBounds(check, "length(-1), one has gone", () -> Made.withFullLines(21), p -> p.length(-1));
    }

    // ---- count

    private static void countsLines(Check check) {
        check.same("the least", new TapePrinter().count(0), 1);
        check.same("19", Made.withFullLines(19).count(0), 19);
        check.same("the greatest", Made.withFullLines(20).count(0), 20);
        check.same("one has gone", Made.withFullLines(21).count(0), 20);
    }

    private static void countsCharacters(Check check) {
        check.same("none", new TapePrinter().count(1), 0);
        check.same("one line", Made.withLine(40).count(1), 40);
        check.same("one of them lost", Made.withLine(41).count(1), 40);
        check.same("the greatest", Made.withFullPage().count(1), 800);
        check.same("a line of them gone", aLineBegunAnew().count(1), 760);
    }

    private static void countsTheShift(Check check) {
        TapePrinter printer = new TapePrinter();
        check.same("at first", printer.count(2), 0);
        printer.receive(27);
        check.same("figures", printer.count(2), 1);
        printer.receive(31);
        check.same("letters", printer.count(2), 0);
        printer.punch(27);
        check.same("not that of the tape", printer.count(2), 0);
    }

    private static void countsThePlay(Check check) {
        TapePrinter printer = new TapePrinter();
        for (int play = 9; play >= 0; play--) {
            printer.setPlay(play);
            check.same("the play", printer.count(3), play);
        }
    }

    private static void countsCodesOfTheTape(Check check) {
        check.same("none", new TapePrinter().count(4), 0);
        check.same("one", Made.withTape(1, 0).count(4), 1);
        check.same("the greatest", Made.withTape(120, 0).count(4), 120);
    }

    private static void countsTheReader(Check check) {
        TapePrinter printer = Made.withTape(120, 0);
        check.same("at first", printer.count(5), 0);
        printer.run(120);
        check.same("the greatest", printer.count(5), 120);
        printer.wind(0);
        check.same("the least", printer.count(5), 0);
    }

    private static void countsCodesThatCame(Check check) {
        TapePrinter printer = Made.withTape(3, 0);
        check.same("none", printer.count(6), 0);
        Check.receiveAll(printer, 0, 31, 2, 4, 8);
        check.same("also those that print nothing", printer.count(6), 5);
        printer.run(120);
        check.same("those of the tape that came", printer.count(6), 8);
        printer.run(120);
        check.same("none at its end", printer.count(6), 8);
        check.same("also those that are lost", Made.withLine(50).count(6), 50);
    }

    private static void countsOtherCodes(Check check) {
        TapePrinter printer = Made.withTape(2, 0);
        printer.setLine(0, 0, 31);
        printer.setLine(1, 9, 0);
        printer.setLine(3, 0, 1);
        printer.receive(0);
        check.same("the first one", printer.count(7), 1);
        printer.receive(0);
        check.same("0 that is late is the same", printer.count(7), 1);
        printer.run(2);
        check.same("those of the tape", printer.count(7), 2);
        check.same("what would be does not count", printer.would(0) + printer.wrong() + printer.count(7), 2);
    }

    private static void countsLostCharacters(Check check) {
        check.same("none", new TapePrinter().count(8), 0);
        check.same("none of 40", Made.withLine(40).count(8), 0);
        check.same("one of 41", Made.withLine(41).count(8), 1);
        check.same("none of those that went with their line", Made.withFullLines(22).count(8), 0);
        TapePrinter printer = Made.withLine(40);
        Check.receiveAll(printer, 0, 8, 27, 31, 2);
        check.same("not what prints nothing, nor a new line", printer.count(8), 0);
    }

    private static void countsTheUnshift(Check check) {
        TapePrinter printer = new TapePrinter();
        check.same("at first", printer.count(9), 0);
        printer.setUnshift(true);
        check.same("it does", printer.count(9), 1);
        printer.setUnshift(false);
        check.same("it does not", printer.count(9), 0);
    }

    private static void countsTheBell(Check check) {
        TapePrinter printer = Made.withTape(120, 8);
        check.same("none", printer.count(10), 0);
        printer.receive(8);
        check.same("one", printer.count(10), 1);
        printer.run(120);
        check.same("all", printer.count(10), 121);
        printer.setLine(9, 0, 31);
        printer.receive(8);
        check.same("not if it is read as another one", printer.count(10), 121);
    }

    private static void countRefuses(Check check) {
        check.same("the least is there", Made.used().count(0), 2);
        check.same("the greatest is there", Made.used().count(10), 1);
        for (int bad : new int[] {-1, 11, -10, 12, Integer.MIN_VALUE, Integer.MAX_VALUE}) {
            Twins.neverOutOfBounds(check, "count(" + bad + ")", p -> p.count(bad));
        }
    }

    // ---- mean

    private static void meanIs0To40(Check check) {
        check.same("the least", new TapePrinter().mean(), 0.0);
        check.same("one character", Made.withLine(1).mean(), 1.0);
        check.same("one full line", Made.withLine(40).mean(), 40.0);
        check.same("the greatest", Made.withFullPage().mean(), 40.0);
        check.same("an empty line counts", aLineBegunAnew().mean(), 38.0);
        TapePrinter printer = Made.withLine(1);
        Check.receiveMany(printer, 2, 2);
        check.same("a third", printer.mean(), 1.0 / 3);
        Check.receiveMany(printer, 17, 2);
        check.same("a twentieth", printer.mean(), 1.0 / 20);
        printer.receive(2);
        check.same("it has gone", printer.mean(), 0.0);
        Twins.neverChanges(check, "mean", TapePrinter::mean);
    }
}
