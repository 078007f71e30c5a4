/** Promises 6 to 9 and 19: setLine, setPlay, setUnshift, receive, would. */
public final class LineTest {
    private static final int[] BAD_CODES = {-1, 32, -31, 63, Integer.MIN_VALUE, Integer.MAX_VALUE};

    public static void main(String[] args) {
        Check check = new Check();
        tableTellsWhatWasBefore(check);
        badTablesAreRefused(check);
        playTellsWhatWasBefore(check);
        unshiftTellsWhatWasBefore(check);
        playBoundsWhatIsRead(check);
        garbledAheadOfTheSelector(check);
        tableGoesRound(check);
        whatIsReadIsPrinted(check);
        badCodesAreRefused(check);
        check.end();
    }

    private static void tableTellsWhatWasBefore(Check check) {
        TapePrinter printer = new TapePrinter();
        for (int place = 0; place < 16; place++) {
            check.same("late at first", printer.setLine(place, place - 8, place), 0);
        }
        for (int place = 0; place < 16; place++) {
            check.same("late before", printer.setLine(place, 9, 31), place - 8);
            check.same("late before", printer.setLine(place, -9, 0), 9);
            check.same("late before", printer.setLine(place, 0, 0), -9);
        }
    }

    private static void badTablesAreRefused(Check check) {
        TapePrinter printer = new TapePrinter();
        printer.setLine(3, 4, 5);
        for (int bad : new int[] {-1, 16, 17, -16, Integer.MIN_VALUE, Integer.MAX_VALUE}) {
            check.outOfBounds("place " + bad, printer, () -> printer.setLine(bad, 0, 0));
            check.outOfBounds("place first " + bad, printer, () -> printer.setLine(bad, 10, 32));
        }
        for (int bad : new int[] {-10, 10, Integer.MIN_VALUE, Integer.MAX_VALUE}) {
            check.badArgument("late " + bad, printer, () -> printer.setLine(3, bad, 0));
        }
        for (int bad : BAD_CODES) {
            check.badArgument("garble " + bad, printer, () -> printer.setLine(15, 0, bad));
        }
        check.same("late is kept", printer.setLine(3, 0, 0), 4);
    }

    private static void playTellsWhatWasBefore(Check check) {
        TapePrinter printer = new TapePrinter();
        check.same("play at first", printer.setPlay(9), 0);
        check.same("play before", printer.setPlay(0), 9);
        check.same("play before", printer.setPlay(5), 0);
        for (int bad : new int[] {-1, 10, Integer.MIN_VALUE, Integer.MAX_VALUE}) {
            check.badArgument("play " + bad, printer, () -> printer.setPlay(bad));
        }
        check.same("play now", printer.count(3), 5);
    }

    private static void unshiftTellsWhatWasBefore(Check check) {
        TapePrinter printer = new TapePrinter();
        check.same("unshift at first", printer.setUnshift(false), false);
        check.same("unshift before", printer.setUnshift(true), false);
        check.same("unshift before", printer.setUnshift(true), true);
        check.same("unshift before", printer.setUnshift(false), true);
        Check.receiveAll(printer, 27, 4);
        check.same("a blank keeps figures", printer.count(2), 1);
        printer.setUnshift(true);
        check.same("figures stay till a blank comes", printer.count(2), 1);
        printer.receive(1);
        printer.receive(4);
        check.same("a blank unshifts", printer.count(2), 0);
        printer.receive(1);
        check.same("what is printed", Check.line(printer, 0), 53, 27, 53, 1);
    }

    private static void playBoundsWhatIsRead(Check check) {
        for (int play = 0; play <= 9; play++) {
            for (int late = -9; late <= 9; late++) {
                TapePrinter printer = new TapePrinter();
                printer.setPlay(play);
                printer.setLine(0, late, 0);
                int due = late > play ? 0b01001 : late < -play ? 0b00111 : 0b10011;
                String what = "10011, play " + play + ", late " + late;
                check.same("would, " + what, printer.would(0b10011), due);
                check.same("receive, " + what, printer.receive(0b10011), due);
                check.same("misread, " + what, printer.count(7), due == 0b10011 ? 0 : 1);
            }
        }
        TapePrinter printer = new TapePrinter();
        printer.setLine(0, 1, 0);
        check.same("31 late", printer.would(31), 15);
        check.same("0 late", printer.would(0), 0);
        printer.setLine(0, -1, 0);
        check.same("31 early", printer.would(31), 31);
        check.same("0 early", printer.would(0), 1);
        printer.receive(31);
        check.same("31 early is no other code", printer.count(7), 0);
    }

    private static void garbledAheadOfTheSelector(Check check) {
        TapePrinter printer = new TapePrinter();
        printer.setLine(0, 0, 0b10010);
        check.same("garbled", printer.would(0b00110), 0b10100);
        printer.setLine(0, 2, 0b10010);
        check.same("garbled and late", printer.would(0b00110), 0b01010);
        printer.setLine(0, -2, 0b10010);
        check.same("garbled and early", printer.would(0b00110), 0b01001);
        printer.setPlay(2);
        check.same("garbled, in play", printer.would(0b00110), 0b10100);
        check.same("nothing came", printer.count(6), 0);
        // 01010 is garbled to 10100, which is read as 01010 when it is late.
        printer.setPlay(0);
        printer.setLine(0, 1, 0b11110);
        check.same("read as itself", printer.receive(0b01010), 0b01010);
        check.same("not misread", printer.count(7), 0);
    }

    private static void tableGoesRound(Check check) {
        TapePrinter printer = new TapePrinter();
        printer.setLine(0, 0, 1);
        printer.setLine(5, 0, 3);
        printer.setLine(15, 0, 7);
        for (int k = 0; k < 48; k++) {
            int turn = k % 16;
            int due = turn == 0 ? 1 : turn == 5 ? 3 : turn == 15 ? 7 : 0;
            check.same("would at " + k, printer.would(0), due);
            check.same("receive at " + k, printer.receive(0), due);
            check.same("came", printer.count(6), k + 1);
        }
        check.same("misread", printer.count(7), 9);
    }

    private static void whatIsReadIsPrinted(Check check) {
        TapePrinter printer = new TapePrinter();
        check.same("letters", printer.receive(1), 1);
        check.same("to figures", printer.receive(27), 27);
        check.same("figures", printer.receive(30), 30);
        check.same("blank", printer.receive(4), 4);
        check.same("nothing", printer.receive(0), 0);
        check.same("bell", printer.receive(8), 8);
        check.same("figures", printer.receive(3), 3);
        check.same("to letters", printer.receive(31), 31);
        check.same("letters", printer.receive(3), 3);
        check.same("to figures", printer.receive(27), 27);
        check.same("new line", printer.receive(2), 2);
        check.same("letters", printer.receive(30), 30);
        check.same("line 0", Check.line(printer, 0), 1, 52, 53, 28, 2);
        check.same("line 1", Check.line(printer, 1), 26);
        check.same("counts", Check.counts(printer), 2, 6, 0, 0, 0, 0, 12, 0, 0, 0, 1);
        printer.setLine(12, 0, 27);
        printer.setLine(13, 0, 8);
        check.same("0 garbled to figures", printer.receive(0), 27);
        check.same("0 garbled to a bell", printer.receive(0), 8);
        check.same("counts", Check.counts(printer), 2, 6, 1, 0, 0, 0, 14, 2, 0, 0, 2);
        check.same("31 garbled no more", printer.receive(31), 31);
    }

    private static void badCodesAreRefused(Check check) {
        TapePrinter printer = new TapePrinter();
        printer.setLine(0, 3, 9);
        for (int bad : BAD_CODES) {
            check.outOfBounds("receive(" + bad + ")", printer, () -> printer.receive(bad));
            check.outOfBounds("would(" + bad + ")", printer, () -> printer.would(bad));
        }
        long before = printer.digest();
        for (int code = 0; code < 32; code++) {
            printer.would(code);
        }
        check.same("would changes nothing", printer.digest(), before);
    }
}
