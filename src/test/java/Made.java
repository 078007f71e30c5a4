/** Printers in the states that the edges ask for, each made by at most 190 calls. */
final class Made {
    private Made() {
    }

    /** Each thing that the document tells of is other than at first. */
    static TapePrinter used() {
        TapePrinter printer = new TapePrinter();
        printer.setPlay(3);
        printer.setUnshift(true);
        printer.setLine(0, 4, 0);
        printer.setLine(9, -9, 17);
        printer.setLine(15, 9, 31);
        Check.receiveMany(printer, 42, 21);
        Check.receiveAll(printer, 8, 2, 1, 3, 27, 0, 0, 30);
        Check.punchAll(printer, 27, 1, 4, 31, 2, 8, 30, 0, 27);
        printer.run(1);
        printer.receive(5);
        return printer;
    }

    static TapePrinter withTape(int many, int code) {
        TapePrinter printer = new TapePrinter();
        for (int k = 0; k < many; k++) {
            printer.punch(code);
        }
        return printer;
    }

    /** Its tape has 120 codes, all kinds of them, and its reader stands amid them. */
    static TapePrinter withFullTape() {
        TapePrinter printer = new TapePrinter();
        for (int k = 0; k < 120; k++) {
            printer.punch(k % 32);
        }
        printer.wind(60);
        return printer;
    }

    /** Its page has a number of lines: 40 characters each, the first one the line's own, the others 26. */
    static TapePrinter withFullLines(int lines) {
        TapePrinter printer = withTape(39, 30);
        for (int line = 0; line < lines; line++) {
            if (line > 0) {
                printer.receive(2);
            }
            printer.receive(printer.code(1 + line));
            printer.run(120);
            printer.wind(0);
        }
        return printer;
    }

    static TapePrinter withFullPage() {
        return withFullLines(20);
    }

    /** Its one line has a number of characters. */
    static TapePrinter withLine(int characters) {
        TapePrinter printer = new TapePrinter();
        Check.receiveMany(printer, characters, 1);
        return printer;
    }

    /** Its tape has just these codes. */
    static TapePrinter withCodes(int... codes) {
        TapePrinter printer = new TapePrinter();
        Check.punchAll(printer, codes);
        return printer;
    }
}
