import java.util.Arrays;

/** What the promises say and names no edge: each sentence, or part of one, has a test of its own. */
public final class PromisesTest {
    /** What the tapes of all their kinds are made of. */
    private static final int[] KINDS = {27, 31, 1, 4, 2, 0};

    public static void main(String[] args) {
        Check check = new Check();
        codes(check);
        codesThatCome(check);
        tape(check);
        whatIsThere(check);
        whatWouldBe(check);
        check.end();
    }

    private static void codes(Check check) {
        check.sentence("Promise 2, `character`: a character", PromisesTest::codeOfEachCharacter);
        check.sentence("Promise 3, `code`: a code", PromisesTest::characterOfEachCode);
        check.sentence("Promise 4, `a`: a character", PromisesTest::apartFromEachOther);
        check.sentence("Promise 4, `b`: a character", PromisesTest::apartBothWays);
        check.sentence("Promise 5, `code`: a code", PromisesTest::doubtsOfEachCode);
    }

    private static void codesThatCome(Check check) {
        check.sentence("Promise 9, `code`: the code", PromisesTest::eachCodeIsReceived);
        check.sentence("Promise 19, `code`: a code", PromisesTest::eachCodeWouldBeRead);
    }

    private static void tape(Check check) {
        check.sentence("Promise 10, `code`: the code", PromisesTest::eachCodeIsPunched);
        check.sentence("Promise 11, Punches a character at the end of the tape", PromisesTest::typesAtTheEnd);
        check.sentence("Promise 11, `character`: the character", PromisesTest::eachCharacterIsTyped);
        check.sentence("Promise 12, `place`: its place, from 0", PromisesTest::eachPlaceIsRubbedOut);
        check.sentence("Promise 13, Runs the tape", PromisesTest::aRunIsAsIfItsCodesWereReceived);
        check.sentence("Promise 13, `many`: how many", PromisesTest::runsJustSoMany);
        check.sentence("Promise 14, Has the reader stand at a place.", PromisesTest::standsAtEachPlace);
        check.sentence("Promise 15, Returns the code there.", PromisesTest::tellsEachCodeOfTheTape);
    }

    private static void whatIsThere(Check check) {
        check.sentence("Promise 16, Returns the character there.", PromisesTest::tellsEachCharacterOfThePage);
        check.sentence("Promise 17, `line`: a line, from 0", PromisesTest::tellsTheLengthOfEachLine);
        check.sentence("Promise 18, Returns this.", PromisesTest::countsEachOfThem);
        check.sentence("Promise 23, Returns the mean number of characters of a line.",
                PromisesTest::meanOfWhatLengthTells);
    }

    private static void whatWouldBe(Check check) {
        check.sentence("Promise 20, if the tape was run to its end now", PromisesTest::wrongAsTheRunThatFollows);
        check.sentence("Promise 21, codes 31 and 27 behind which", PromisesTest::idleIfItCanGo);
        check.sentence("Promise 22, Returns the character that the tape prints by the code there",
                PromisesTest::printsAsTheRunThatFollows);
        check.sentence("Promise 24, for each of the following numbers x, d becomes d * 31 + x",
                PromisesTest::digestOfWhatIsTold);
        check.sentence("Promise 24, Computes a checksum.", PromisesTest::digestTellsStatesApart);
    }

    // ---- codes

    private static void codeOfEachCharacter(Check check) {
        TapePrinter printer = new TapePrinter();
        int due = 0;
        for (int letter = 1; letter <= 26; letter++) {
            due++;
            while (due == 2 || due == 4 || due == 8 || due == 27) {
                due++;
            }
            check.same("code(" + letter + ")", printer.code(letter), due);
            check.same("code(" + (letter + 26) + ")", printer.code(letter + 26), due);
        }
        check.same("code(53)", printer.code(53), 4);
        check.same("code(54)", printer.code(54), 2);
    }

    private static void characterOfEachCode(Check check) {
        TapePrinter printer = new TapePrinter();
        int letter = 0;
        for (int code = 0; code < 32; code++) {
            boolean isOther = code != 31 && code != 27 && code != 4 && code != 2 && code != 8 && code != 0;
            letter += isOther ? 1 : 0;
            int alone = code == 4 ? 53 : code == 2 ? 54 : 0;
            check.same("character(" + code + ", false)", printer.character(code, false), isOther ? letter : alone);
            check.same("character(" + code + ", true)", printer.character(code, true), isOther ? letter + 26 : alone);
        }
        check.same("letters", letter, 26);
    }

    private static void apartFromEachOther(Check check) {
        for (int a = 1; a <= 54; a++) {
            TapePrinter printer = new TapePrinter();
            for (int b = 1; b <= 54; b++) {
                boolean sameCode = a == b || a <= 52 && b <= 52 && (a - b == 26 || b - a == 26);
                int apart = printer.apart(a, b);
                check.tell(sameCode ? apart == 0 : apart >= 1 && apart <= 5, "apart(" + a + ", " + b + ") is " + apart);
            }
        }
    }

    private static void apartBothWays(Check check) {
        for (int a = 1; a <= 54; a++) {
            TapePrinter printer = new TapePrinter();
            for (int b = 1; b < a; b++) {
                check.same("apart(" + a + ", " + b + ")", printer.apart(a, b), printer.apart(b, a));
            }
        }
    }

    private static void doubtsOfEachCode(Check check) {
        for (int shift : new int[] {31, 27}) {
            TapePrinter printer = new TapePrinter();
            printer.receive(shift);
            for (int code = 0; code < 32; code++) {
                int others = 0;
                for (int unit = 1; unit < 32; unit *= 2) {
                    int other = printer.character(code ^ unit, shift == 27);
                    others += other != printer.character(code, shift == 27) ? 1 : 0;
                }
                check.same("doubts(" + code + ") behind " + shift, printer.doubts(code), others);
            }
        }
    }

    // ---- codes that come

    private static void eachCodeIsReceived(Check check) {
        for (int late = -9; late <= 9; late++) {
            TapePrinter printer = new TapePrinter();
            for (int place = 0; place < 16; place++) {
                printer.setLine(place, late, place);
            }
            printer.setPlay(4);
            for (int code = 0; code < 32; code++) {
                int units = code ^ code % 16;
                int due = late > 4 ? units / 2 : late < -4 ? units % 16 * 2 + 1 : units;
                check.same("receive(" + code + "), late by " + late, printer.receive(code), due);
            }
            check.same("all came", printer.count(6), 32);
        }
    }

    private static void eachCodeWouldBeRead(Check check) {
        for (int came = 0; came < 16; came++) {
            TapePrinter printer = new TapePrinter();
            for (int place = 0; place < 16; place++) {
                printer.setLine(place, place % 3 - 1, 31 - place);
            }
            Check.receiveMany(printer, came, 0);
            for (int code = 0; code < 32; code++) {
                int units = code ^ 31 - came;
                int due = came % 3 == 0 ? units % 16 * 2 + 1 : came % 3 == 1 ? units : units / 2;
                check.same("would(" + code + ") as code " + came, printer.would(code), due);
            }
        }
    }

    // ---- the tape

    private static void eachCodeIsPunched(Check check) {
        TapePrinter printer = new TapePrinter();
        for (int code = 31; code >= 0; code--) {
            check.same("punch(" + code + ")", printer.punch(code), 32 - code);
            check.same("what is punched", printer.tape(31 - code), code);
        }
        check.same("no shift ahead of it", printer.count(4), 32);
    }

    private static void typesAtTheEnd(Check check) {
        TapePrinter printer = Made.withCodes(1, 3, 27, 5);
        printer.run(2);
        check.same("a letter", printer.type(1), 2);
        check.same("behind all, not where the reader stands", Check.tape(printer), 1, 3, 27, 5, 31, 1);
        printer.rub(5);
        check.same("a figure", printer.type(52), 2);
        check.same("behind what is rubbed out", Check.tape(printer), 1, 3, 27, 5, 31, 31, 27, 30);
        check.same("the reader stays", printer.count(5), 2);
        check.same("no code comes", printer.count(6), 2);
    }

    private static void eachCharacterIsTyped(Check check) {
        TapePrinter printer = new TapePrinter();
        for (int k = 0; k < 54; k++) {
            int character = k * 17 % 54 + 1;
            printer.type(character);
            int last = printer.count(4) - 1;
            check.same("the code of " + character, printer.tape(last), printer.code(character));
            check.same("what it prints", printer.prints(last), character);
        }
        check.same("no shift that is not needed", printer.idle(), 0);
    }

    private static void eachPlaceIsRubbedOut(Check check) {
        for (int place = 0; place < 120; place++) {
            TapePrinter printer = Made.withFullTape();
            check.same("rub(" + place + ")", printer.rub(place), place % 32);
            int[] due = new int[120];
            for (int k = 0; k < 120; k++) {
                due[k] = k == place ? 31 : k % 32;
            }
            check.same("the tape behind rub(" + place + ")", Check.tape(printer), due);
        }
    }

    private static void aRunIsAsIfItsCodesWereReceived(Check check) {
        TapePrinter ran = Made.used();
        TapePrinter received = Made.used();
        int[] codes = {27, 1, 4, 30, 2, 3, 8, 31, 0, 28, 27, 4, 26, 5, 2, 2, 7, 1};
        Check.punchAll(ran, codes);
        Check.punchAll(received, codes);
        int reader = received.count(5);
        for (int place = reader; place < received.count(4); place++) {
            received.receive(received.tape(place));
        }
        check.same("all come", ran.run(120), received.count(4) - reader);
        ran.wind(reader);
        check.same("the digest", ran.digest(), received.digest());
    }

    private static void runsJustSoMany(Check check) {
        for (int many = 1; many <= 120; many++) {
            TapePrinter printer = Made.withTape(120, 0);
            check.same("run(" + many + ")", printer.run(many), many);
            check.same("what came behind run(" + many + ")", printer.count(6), many);
            check.same("the reader behind run(" + many + ")", printer.count(5), many);
            check.same("the rest", printer.run(120), 120 - many);
        }
    }

    private static void standsAtEachPlace(Check check) {
        TapePrinter printer = Made.withFullTape();
        int before = 60;
        for (int k = 0; k <= 120; k++) {
            int place = k * 50 % 121;
            check.same("wind(" + place + ")", printer.wind(place), before);
            check.same("the reader", printer.count(5), place);
            before = place;
        }
        check.same("no code comes", printer.count(6), 0);
        printer.wind(30);
        printer.setLine(0, 0, 1);
        printer.run(1);
        check.same("what comes from there, garbled to 31", printer.count(7), 1);
        check.same("what comes from there, 31", printer.run(1), 1);
        printer.wind(27);
        printer.run(2);
        check.same("what comes from there, to figures and one of them", Check.line(printer, 0), 50);
    }

    private static void tellsEachCodeOfTheTape(Check check) {
        TapePrinter printer = Made.withFullTape();
        int[] due = new int[120];
        for (int place = 0; place < 120; place++) {
            due[place] = place % 32;
        }
        check.same("the tape", Check.tape(printer), due);
        printer.run(120);
        check.same("the tape that has been run", Check.tape(printer), due);
    }

    // ---- what is there

    private static void tellsEachCharacterOfThePage(Check check) {
        TapePrinter printer = new TapePrinter();
        int[][] due = new int[20][];
        // Behind 25 lines, of which the first five have gone, each of 1 to 5 characters.
        for (int line = 0; line < 25; line++) {
            int[] characters = new int[1 + line % 5];
            printer.receive(line == 0 ? 31 : 2);
            printer.receive(line % 2 == 0 ? 31 : 27);
            for (int place = 0; place < characters.length; place++) {
                int letter = 1 + (line + 7 * place) % 26;
                printer.receive(printer.code(letter));
                characters[place] = line % 2 == 0 ? letter : letter + 26;
            }
            if (line >= 5) {
                due[line - 5] = characters;
            }
        }
        for (int line = 0; line < 20; line++) {
            check.same("line " + line, Check.line(printer, line), due[line]);
        }
    }

    private static void tellsTheLengthOfEachLine(Check check) {
        TapePrinter printer = Made.withTape(40, 1);
        for (int line = 0; line < 27; line++) {
            if (line > 0) {
                printer.receive(2);
            }
            if (line % 9 != 0) {
                printer.wind(0);
                printer.run(line * 5 % 41);
            }
        }
        for (int line = 0; line < 20; line++) {
            int made = line + 7;
            check.same("length(" + line + ")", printer.length(line), made % 9 == 0 ? 0 : made * 5 % 41);
        }
    }

    private static void countsEachOfThem(Check check) {
        TapePrinter printer = Made.withTape(90, 7);
        printer.setPlay(6);
        printer.setUnshift(true);
        printer.setLine(5, 7, 0);
        Check.receiveAll(printer, 8, 2, 2, 27, 8);
        printer.run(45);
        // Of 45 codes those that come as 5, 21 and 37 are read as 3, and 5 have no room in the line.
        check.same("counts", Check.counts(printer), 3, 40, 1, 6, 90, 45, 50, 3, 5, 1, 2);
    }

    private static void meanOfWhatLengthTells(Check check) {
        TapePrinter printer = Made.withTape(40, 1);
        for (int more = 0; more < 24; more++) {
            printer.wind(0);
            printer.run(1 + more * 7 % 40);
            double sum = 0;
            int lines = printer.count(0);
            if (more % 4 == 3) {
                for (int line = 0; line < lines; line++) {
                    sum += printer.length(line);
                }
                check.same("mean behind " + more + " lines", printer.mean(), sum / lines);
            }
            printer.receive(2);
        }
    }

    // ---- what would be

    private static void wrongAsTheRunThatFollows(Check check) {
        for (int kind = 0; kind < 64; kind++) {
            TapePrinter printer = Made.withFullTape();
            for (int place = 0; place < 16; place++) {
                printer.setLine(place, (place * kind + 5) % 19 - 9, place % 3 == 0 ? kind * 5 % 32 : 0);
            }
            printer.setPlay(kind % 10);
            Check.receiveMany(printer, kind % 17, 1);
            printer.wind(kind);
            int before = printer.count(7);
            int wrong = printer.wrong();
            check.same("all come", printer.run(120), 120 - kind);
            check.same("wrong ahead of run " + kind, wrong, printer.count(7) - before);
        }
    }

    /** A shift does nothing just if the tape prints the same when nothing (0) stands in its place. */
    private static void idleIfItCanGo(Check check) {
        for (int number = 0; number < 6 * 6 * 6 * 6 * 6; number++) {
            int[] codes = new int[5];
            int left = number;
            for (int k = 0; k < codes.length; k++) {
                codes[k] = KINDS[left % 6];
                left /= 6;
            }
            idleIfItCanGo(check, false, codes);
            idleIfItCanGo(check, true, codes);
        }
    }

    private static void idleIfItCanGo(Check check, boolean unshifts, int... codes) {
        int due = 0;
        int[] printed = printed(unshifts, codes);
        for (int place = 0; place < codes.length; place++) {
            if (codes[place] == 31 || codes[place] == 27) {
                int[] without = codes.clone();
                without[place] = 0;
                due += Arrays.equals(printed(unshifts, without), printed) ? 1 : 0;
            }
        }
        TapePrinter printer = Made.withCodes(codes);
        printer.setUnshift(unshifts);
        check.same("idle, " + Arrays.toString(codes) + (unshifts ? ", unshift" : ""), printer.idle(), due);
    }

    /** The lines that a new printer prints by codes, one behind the other. */
    private static int[] printed(boolean unshifts, int... codes) {
        TapePrinter printer = new TapePrinter();
        printer.setUnshift(unshifts);
        Check.receiveAll(printer, codes);
        int[] printed = new int[codes.length];
        int many = 0;
        for (int line = 0; line < printer.count(0); line++) {
            for (int character : Check.line(printer, line)) {
                printed[many] = character;
                many++;
            }
        }
        return printed;
    }

    private static void printsAsTheRunThatFollows(Check check) {
        for (int unshifts = 0; unshifts < 2; unshifts++) {
            for (int kind = 1; kind < 32; kind += 2) {
                TapePrinter printer = new TapePrinter();
                printer.setUnshift(unshifts == 1);
                for (int k = 0; k < 32; k++) {
                    printer.punch((k * kind + 27) % 32);
                }
                for (int place = 0; place < 32; place++) {
                    String what = "prints(" + place + ") of tape " + kind + (unshifts == 1 ? ", unshift" : "");
                    check.same(what, printer.prints(place), printedByNext(printer));
                }
            }
        }
    }

    /** What the next code of a tape prints when it comes, as the page shows it; 0 for none. */
    private static int printedByNext(TapePrinter printer) {
        int lines = printer.count(0);
        int characters = printer.count(1);
        printer.run(1);
        if (printer.count(0) > lines) {
            return 54;
        }
        return printer.count(1) > characters ? printer.page(lines - 1, printer.length(lines - 1) - 1) : 0;
    }

    private static void digestOfWhatIsTold(Check check) {
        TapePrinter printer = Made.used();
        long d = 1373;
        for (int count : Check.counts(printer)) {
            d = d * 31 + count;
        }
        int[] table = new int[32];
        table[0] = 4;
        table[18] = -9;
        table[19] = 17;
        table[30] = 9;
        table[31] = 31;
        for (int x : table) {
            d = d * 31 + x;
        }
        for (int line = 0; line < printer.count(0); line++) {
            d = d * 31 + printer.length(line);
            for (int character : Check.line(printer, line)) {
                d = d * 31 + character;
            }
        }
        for (int code : Check.tape(printer)) {
            d = d * 31 + code;
        }
        check.same("the digest", printer.digest(), d);
    }

    private static void digestTellsStatesApart(Check check) {
        long[] digests = {
            new TapePrinter().digest(), Made.used().digest(), Made.withFullTape().digest(),
            Made.withFullPage().digest(), Made.withLine(1).digest(), Made.withCodes(1).digest(),
            Made.withCodes(1, 3).digest(), Made.withCodes(3, 1).digest(), Made.withLine(41).digest()
        };
        for (int one = 0; one < digests.length; one++) {
            for (int other = 0; other < one; other++) {
                check.tell(digests[one] != digests[other], "states " + one + " and " + other + " have one digest");
            }
        }
        check.same("one made alike", Made.used().digest(), digests[1]);
    }
}
