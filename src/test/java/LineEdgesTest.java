/** The edges of promises 6 to 9 and 19, the line and the selector: a test for each sentence that names one. */
public final class LineEdgesTest {
    private static final int[] BAD_CODES = {-1, 32, -31, 63, Integer.MIN_VALUE, Integer.MAX_VALUE};

    public static void main(String[] args) {
        Check check = new Check();
        setLine(check);
        settings(check);
        codesThatCome(check);
        check.end();
    }

    private static void setLine(Check check) {
        check.sentence("Promise 6, `place`: a place of the table, 0 to 15", LineEdgesTest::placesAre0To15);
        check.sentence("Promise 6, `late`: by how much a start there is late, less than 0 for early",
                LineEdgesTest::lateAndEarly);
        check.sentence("Promise 6, `garble`: the units that are garbled there", LineEdgesTest::garbledAre0To31);
        check.sentence("Promise 6, Returns by how much it was late before.", LineEdgesTest::lateBefore);
        check.sentence("Promise 6, Throws `IndexOutOfBoundsException` if place is not 0 to 15",
                LineEdgesTest::setLineRefusesPlaces);
        check.sentence("Promise 6, Throws `IllegalArgumentException` if late is not -9 to 9",
                LineEdgesTest::setLineRefusesLate);
        check.sentence("Promise 6, or garble is not 0 to 31", LineEdgesTest::setLineRefusesGarble);
    }

    private static void settings(Check check) {
        check.sentence("Promise 7, `play`: the play from now on", LineEdgesTest::playFromNowOn);
        check.sentence("Promise 7, Returns the play before.", LineEdgesTest::playBefore);
        check.sentence("Promise 7, Throws `IllegalArgumentException` if play is not 0 to 9",
                LineEdgesTest::setPlayRefuses);
        check.sentence("Promise 8, `does`: whether a blank unshifts from now on", LineEdgesTest::unshiftFromNowOn);
        check.sentence("Promise 8, Returns whether it did before.", LineEdgesTest::unshiftBefore);
    }

    private static void codesThatCome(Check check) {
        check.sentence("Promise 9, A code comes over the line, and is printed as it is read.",
                LineEdgesTest::printedAsItIsRead);
        check.sentence("Promise 9, Returns the code that is read.", LineEdgesTest::theLeastAndTheGreatestAreRead);
        check.sentence("Promise 9, Throws `IndexOutOfBoundsException` if code is not 0 to 31",
                LineEdgesTest::receiveRefuses);
        check.sentence("Promise 19, Returns the code that would be read, if it came now",
                LineEdgesTest::wouldAsReceive);
        check.sentence("Promise 19, (nothing is changed)", LineEdgesTest::wouldChangesNothing);
        check.sentence("Promise 19, Throws `IndexOutOfBoundsException` if code is not 0 to 31",
                LineEdgesTest::wouldRefuses);
    }

    // ---- setLine

    private static void placesAre0To15(Check check) {
        TapePrinter printer = new TapePrinter();
        printer.setLine(0, 0, 3);
        printer.setLine(15, 0, 5);
        int[] due = {3, 0, 0, 0, 0, 0, 0, 0, 0, 0, 0, 0, 0, 0, 0, 5, 3};
        for (int came = 0; came < due.length; came++) {
            check.same("code " + came, printer.receive(0), due[came]);
        }
    }

    private static void lateAndEarly(Check check) {
        TapePrinter printer = new TapePrinter();
        printer.setLine(0, 1, 0);
        check.same("the least that is late", printer.would(6), 3);
        printer.setLine(0, 9, 0);
        check.same("the greatest that is late", printer.would(6), 3);
        printer.setLine(0, -1, 0);
        check.same("the least that is early", printer.would(6), 13);
        printer.setLine(0, -9, 0);
        check.same("the greatest that is early", printer.would(6), 13);
        printer.setLine(0, 0, 0);
        check.same("in time", printer.would(6), 6);
    }

    private static void garbledAre0To31(Check check) {
        TapePrinter printer = new TapePrinter();
        printer.setLine(0, 0, 31);
        check.same("all of them", printer.would(0b01101), 0b10010);
        printer.setLine(0, 0, 1);
        check.same("the first one", printer.would(0b01101), 0b01100);
        printer.setLine(0, 0, 16);
        check.same("the last one", printer.would(0b01101), 0b11101);
        printer.setLine(0, 0, 0);
        check.same("none", printer.would(0b01101), 0b01101);
    }

    private static void lateBefore(Check check) {
        TapePrinter printer = new TapePrinter();
        for (int place : new int[] {0, 15}) {
            check.same("at first", printer.setLine(place, 9, 31), 0);
            check.same("the greatest", printer.setLine(place, -9, 0), 9);
            check.same("the least", printer.setLine(place, -9, 1), -9);
            check.same("not its garbled units", printer.setLine(place, 0, 0), -9);
            check.same("none", printer.setLine(place, 0, 0), 0);
        }
        check.same("another place", printer.setLine(14, 1, 1), 0);
    }

    private static void setLineRefusesPlaces(Check check) {
        for (int bad : new int[] {-1, 16, 17, -16, Integer.MIN_VALUE, Integer.MAX_VALUE}) {
            Twins.neverOutOfBounds(check, "setLine(" + bad + ", 9, 31)", p -> p.setLine(bad, 9, 31));
            Twins.neverOutOfBounds(check, "setLine(" + bad + ", 0, 0)", p -> p.setLine(bad, 0, 0));
        }
    }

    private static void setLineRefusesLate(Check check) {
        for (int bad : new int[] {-10, 10, -11, 11, Integer.MIN_VALUE, Integer.MAX_VALUE}) {
            Twins.neverBadArgument(check, "setLine(0, " + bad + ", 31)", p -> p.setLine(0, bad, 31));
            Twins.neverBadArgument(check, "setLine(15, " + bad + ", 0)", p -> p.setLine(15, bad, 0));
        }
    }

    private static void setLineRefusesGarble(Check check) {
        for (int bad : BAD_CODES) {
            Twins.neverBadArgument(check, "setLine(0, 9, " + bad + ")", p -> p.setLine(0, 9, bad));
            Twins.neverBadArgument(check, "setLine(15, -9, " + bad + ")", p -> p.setLine(15, -9, bad));
        }
    }

    // ---- setPlay, setUnshift

    private static void playFromNowOn(Check check) {
        TapePrinter printer = new TapePrinter();
        printer.setLine(0, 9, 0);
        printer.setLine(1, -9, 0);
        printer.setPlay(8);
        check.same("one too few for late", printer.would(6), 3);
        printer.setPlay(9);
        check.same("the greatest, late", printer.receive(6), 6);
        check.same("the greatest, early", printer.would(6), 6);
        printer.setPlay(8);
        check.same("one too few for early", printer.would(6), 13);
        printer.setPlay(0);
        check.same("the least, in time", printer.receive(31), 31);
        check.same("the least, in time", printer.receive(6), 6);
    }

    private static void playBefore(Check check) {
        TapePrinter printer = new TapePrinter();
        check.same("at first", printer.setPlay(9), 0);
        check.same("the greatest", printer.setPlay(9), 9);
        check.same("the greatest", printer.setPlay(0), 9);
        check.same("the least", printer.setPlay(0), 0);
    }

    private static void setPlayRefuses(Check check) {
        for (int bad : new int[] {-1, 10, -9, 11, Integer.MIN_VALUE, Integer.MAX_VALUE}) {
            Twins.neverBadArgument(check, "setPlay(" + bad + ")", p -> p.setPlay(bad));
        }
    }

    private static void unshiftFromNowOn(Check check) {
        TapePrinter printer = new TapePrinter();
        Check.receiveAll(printer, 27, 4);
        printer.setUnshift(true);
        check.same("not by a blank that came before", printer.count(2), 1);
        check.same("it does", printer.count(9), 1);
        printer.receive(4);
        check.same("by the next one", printer.count(2), 0);
        printer.setUnshift(false);
        check.same("it does not", printer.count(9), 0);
        Check.receiveAll(printer, 27, 4);
        check.same("no more", printer.count(2), 1);
    }

    private static void unshiftBefore(Check check) {
        check.same("at first", new TapePrinter().setUnshift(false), false);
        TapePrinter printer = new TapePrinter();
        check.same("at first", printer.setUnshift(true), false);
        check.same("it did", printer.setUnshift(true), true);
        check.same("it did", printer.setUnshift(false), true);
        check.same("it did not", printer.setUnshift(false), false);
    }

    // ---- receive, would

    private static void printedAsItIsRead(Check check) {
        TapePrinter printer = new TapePrinter();
        printer.setLine(0, 0, 31);
        printer.setLine(1, 0, 27);
        printer.setLine(2, -9, 0);
        printer.setLine(3, 9, 0);
        printer.setLine(4, 0, 8);
        Check.receiveAll(printer, 30, 0, 0, 4, 0);
        // They are read as 1, 27, 1, 2 and 8.
        check.same("line 0", Check.line(printer, 0), 1, 27);
        check.same("counts", Check.counts(printer), 2, 2, 0, 0, 0, 0, 5, 5, 0, 0, 1);
        printer.setLine(5, 0, 31);
        check.same("31 is read as 0", printer.receive(31), 0);
        check.same("and does nothing", Check.counts(printer), 2, 2, 0, 0, 0, 0, 6, 6, 0, 0, 1);
    }

    private static void theLeastAndTheGreatestAreRead(Check check) {
        TapePrinter printer = new TapePrinter();
        check.same("the least", printer.receive(0), 0);
        check.same("the greatest", printer.receive(31), 31);
        check.same("they came", printer.count(6), 2);
        printer.setLine(2, 0, 31);
        printer.setLine(3, 0, 31);
        check.same("all units turned round", printer.receive(0), 31);
        check.same("all units turned round", printer.receive(31), 0);
        TapePrinter full = Made.withFullPage();
        for (int code = 0; code < 32; code++) {
            check.same("on a full page", full.receive(code), code);
        }
    }

    private static void receiveRefuses(Check check) {
        for (int bad : BAD_CODES) {
            Twins.neverOutOfBounds(check, "receive(" + bad + ")", p -> p.receive(bad));
        }
    }

    private static void wouldAsReceive(Check check) {
        TapePrinter printer = new TapePrinter();
        printer.setLine(0, 1, 0);
        printer.setLine(1, -1, 0);
        printer.setLine(15, 0, 31);
        for (int came = 0; came < 33; came++) {
            for (int code : new int[] {0, 10, 31}) {
                int turn = came % 16;
                int due = turn == 0 ? code >> 1 : turn == 1 ? code * 2 % 32 + 1 : turn == 15 ? 31 - code : code;
                check.same(code + " as code " + came, printer.would(code), due);
            }
            int would = printer.would(21);
            check.same("21 as code " + came, printer.receive(21), would);
        }
    }

    private static void wouldChangesNothing(Check check) {
        for (int code : new int[] {0, 1, 2, 4, 8, 27, 30, 31}) {
            Twins.neverChanges(check, "would(" + code + ")", p -> p.would(code));
        }
    }

    private static void wouldRefuses(Check check) {
        for (int bad : BAD_CODES) {
            Twins.neverOutOfBounds(check, "would(" + bad + ")", p -> p.would(bad));
        }
    }
}
