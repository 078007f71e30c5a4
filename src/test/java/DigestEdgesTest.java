import java.math.BigInteger;

/** The edges of promise 24, digest: a test for each sentence that names one. */
public final class DigestEdgesTest {
    private static final int[] A_NEW_ONES_COUNTS = {1, 0, 0, 0, 0, 0, 0, 0, 0, 0, 0};
    private static final int[] A_NEW_ONES_TABLE = new int[32];

    /** The checksum that is due, without any bound of its size. */
    private BigInteger d = BigInteger.valueOf(1373);

    public static void main(String[] args) {
        Check check = new Check();
        check.sentence("Promise 24, A number d starts with 1373", DigestEdgesTest::startsWith1373);
        check.sentence("Promise 24, which wraps around as a 64-bit integer", DigestEdgesTest::wrapsAround);
        check.sentence("Promise 24, what count() tells, in its order", DigestEdgesTest::countsFromTheFirstToTheLast);
        check.sentence("Promise 24, for each place of the table by how much its start is late, and its garbled units",
                DigestEdgesTest::placesFromTheFirstToTheLast);
        check.sentence("Promise 24, for each line how many characters it has, and these",
                DigestEdgesTest::linesFromAnEmptyOneTo20FullOnes);
        check.sentence("Promise 24, the codes of the tape", DigestEdgesTest::tapesFromNoCodeTo120);
        check.sentence("Promise 24, Returns d.", DigestEdgesTest::changesNothing);
        check.end();
    }

    private DigestEdgesTest with(int... numbers) {
        for (int x : numbers) {
            d = d.multiply(BigInteger.valueOf(31)).add(BigInteger.valueOf(x));
        }
        return this;
    }

    private DigestEdgesTest withMany(int many, int x) {
        for (int k = 0; k < many; k++) {
            with(x);
        }
        return this;
    }

    private long due() {
        return d.longValue();
    }

    private static void startsWith1373(Check check) {
        long due = new DigestEdgesTest().with(A_NEW_ONES_COUNTS).with(A_NEW_ONES_TABLE).with(0).due();
        check.same("a new one", new TapePrinter().digest(), due);
        // All numbers behind the start are 0 but the first one of 44, so the start alone is left.
        long power = 1;
        for (int k = 0; k < 43; k++) {
            power *= 31;
        }
        check.same("the start alone", new TapePrinter().digest(), (1373L * 31 + 1) * power);
    }

    private static void wrapsAround(Check check) {
        DigestEdgesTest due = new DigestEdgesTest().with(A_NEW_ONES_COUNTS).with(A_NEW_ONES_TABLE).with(0);
        check.tell(due.d.bitLength() > 64, "a new one's checksum does not wrap around");
        check.same("a new one", new TapePrinter().digest(), due.due());
        boolean negative = false;
        boolean positive = false;
        TapePrinter printer = new TapePrinter();
        for (int many = 0; many <= 120; many++) {
            long digest = printer.digest();
            DigestEdgesTest longer = new DigestEdgesTest().with(1, 0, 0, 0, many, 0, 0, 0, 0, 0, 0)
                    .with(A_NEW_ONES_TABLE).with(0).withMany(many, 31);
            check.same("a tape of " + many, digest, longer.due());
            negative |= digest < 0;
            positive |= digest > 0;
            if (many < 120) {
                printer.punch(31);
            }
        }
        check.tell(negative && positive, "the sign is always the same");
    }

    private static void countsFromTheFirstToTheLast(Check check) {
        TapePrinter printer = Made.withTape(7, 8);
        printer.setPlay(9);
        printer.setUnshift(true);
        printer.setLine(0, 0, 31);
        printer.receive(31);
        Check.receiveMany(printer, 42, 1);
        Check.receiveAll(printer, 27);
        printer.run(3);
        long due = new DigestEdgesTest().with(1, 40, 1, 9, 7, 3, 47, 3, 2, 1, 3)
                .with(0, 31).withMany(30, 0)
                .with(40).with(lineOfOnesWithGarbled()).withMany(7, 8).due();
        check.same("each of them other than at first", printer.digest(), due);
    }

    /** 31 garbled to 0 prints nothing; the codes 16 and 32 of those that came, 1, are garbled to 30. */
    private static int[] lineOfOnesWithGarbled() {
        int[] line = new int[40];
        for (int k = 0; k < 40; k++) {
            int turn = (k + 1) % 16;
            line[k] = turn == 0 ? 26 : 1;
        }
        return line;
    }

    private static void placesFromTheFirstToTheLast(Check check) {
        TapePrinter printer = new TapePrinter();
        int[] table = new int[32];
        for (int place = 0; place < 16; place++) {
            int late = place == 0 ? -9 : place == 15 ? 9 : place - 8;
            int garble = place == 1 ? 0 : 31 - place;
            printer.setLine(place, late, garble);
            table[2 * place] = late;
            table[2 * place + 1] = garble;
        }
        long due = new DigestEdgesTest().with(A_NEW_ONES_COUNTS).with(table).with(0).due();
        check.same("each of them its own", printer.digest(), due);
        printer.setLine(0, 0, 0);
        printer.setLine(15, -9, 31);
        table[0] = 0;
        table[1] = 0;
        table[30] = -9;
        table[31] = 31;
        long dueThen = new DigestEdgesTest().with(A_NEW_ONES_COUNTS).with(table).with(0).due();
        check.same("the first and the last one changed", printer.digest(), dueThen);
    }

    private static void linesFromAnEmptyOneTo20FullOnes(Check check) {
        for (int lines : new int[] {1, 2, 19, 20, 21, 22}) {
            DigestEdgesTest due = new DigestEdgesTest();
            int left = Math.min(lines, 20);
            due.with(left, left * 40, 0, 0, 39, 0, 41 * lines - 1, 0, 0, 0, 0).with(A_NEW_ONES_TABLE);
            for (int line = lines - left; line < lines; line++) {
                due.with(40, 1 + line).withMany(39, 26);
            }
            check.same(lines + " full lines", Made.withFullLines(lines).digest(), due.withMany(39, 30).due());
        }
        TapePrinter printer = Made.withLine(41);
        Check.receiveAll(printer, 2, 2, 4);
        long due = new DigestEdgesTest().with(3, 41, 0, 0, 0, 0, 44, 0, 1, 0, 0).with(A_NEW_ONES_TABLE)
                .with(40).withMany(40, 1).with(0).with(1, 53).due();
        check.same("a full one, an empty one, a blank", printer.digest(), due);
        TapePrinter empty = new TapePrinter();
        Check.receiveMany(empty, 25, 2);
        long dueEmpty = new DigestEdgesTest().with(20, 0, 0, 0, 0, 0, 25, 0, 0, 0, 0).with(A_NEW_ONES_TABLE)
                .withMany(20, 0).due();
        check.same("20 empty ones", empty.digest(), dueEmpty);
    }

    private static void tapesFromNoCodeTo120(Check check) {
        for (int many : new int[] {0, 1, 119, 120}) {
            long due = new DigestEdgesTest().with(1, 0, 0, 0, many, 0, 0, 0, 0, 0, 0).with(A_NEW_ONES_TABLE)
                    .with(0).withMany(many, 17).due();
            check.same("a tape of " + many, Made.withTape(many, 17).digest(), due);
        }
        DigestEdgesTest due = new DigestEdgesTest().with(1, 0, 0, 0, 120, 60, 0, 0, 0, 0, 0)
                .with(A_NEW_ONES_TABLE).with(0);
        for (int place = 0; place < 120; place++) {
            due.with(place % 32);
        }
        check.same("a full one, each code in its order", Made.withFullTape().digest(), due.due());
    }

    private static void changesNothing(Check check) {
        Twins.neverChanges(check, "digest", TapePrinter::digest);
        TapePrinter printer = Made.used();
        check.same("once more", printer.digest(), printer.digest());
    }
}
