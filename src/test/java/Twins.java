import java.util.ArrayList;
import java.util.List;

/** Two printers made alike: one is asked what must change nothing, and goes on as the other one does. */
final class Twins {
    interface Maker {
        TapePrinter make();
    }

    interface Asked {
        void of(TapePrinter printer);
    }

    private static final Maker[] KINDS = {
        TapePrinter::new, Made::used, Made::withFullTape, Made::withFullPage
    };

    private Twins() {
    }

    /** A call that no printer takes, whatever its state. */
    static void neverOutOfBounds(Check check, String what, Asked asked) {
        for (Maker kind : KINDS) {
            refused(check, what, IndexOutOfBoundsException.class, kind, asked);
        }
    }

    /** A call that no printer takes, whatever its state. */
    static void neverBadArgument(Check check, String what, Asked asked) {
        for (Maker kind : KINDS) {
            refused(check, what, IllegalArgumentException.class, kind, asked);
        }
    }

    static void outOfBounds(Check check, String what, Maker maker, Asked asked) {
        refused(check, what, IndexOutOfBoundsException.class, maker, asked);
    }

    static void badState(Check check, String what, Maker maker, Asked asked) {
        refused(check, what, IllegalStateException.class, maker, asked);
    }

    /** Just this exception, thrown by a line of the program itself, and nothing is changed. */
    private static void refused(Check check, String what, Class<?> due, Maker maker, Asked asked) {
        TapePrinter printer = maker.make();
        RuntimeException thrown = null;
        try {
            asked.of(printer);
        } catch (RuntimeException e) {
            thrown = e;
        }
        check.tell(thrown != null && thrown.getClass() == due,
                what + " threw " + thrown + ", due is " + due.getName());
        check.tell(thrown == null || thrown.getStackTrace()[0].getClassName().startsWith("TapePrinter"),
                what + " let the library throw");
        alike(check, what, printer, maker.make());
    }

    /** A call that answers and changes nothing. */
    static void unchanged(Check check, String what, Maker maker, Asked asked) {
        TapePrinter printer = maker.make();
        asked.of(printer);
        alike(check, what, printer, maker.make());
    }

    /** A call that answers and changes nothing, whatever the printer's state. */
    static void neverChanges(Check check, String what, Asked asked) {
        for (Maker kind : KINDS) {
            unchanged(check, what, kind, asked);
        }
    }

    private static void alike(Check check, String what, TapePrinter asked, TapePrinter other) {
        check.tell(answers(asked).equals(answers(other)), what + " changed something");
    }

    /** What a printer tells, and how it goes on: some 150 calls. */
    private static List<Long> answers(TapePrinter printer) {
        List<Long> answers = new ArrayList<>();
        tellAll(answers, printer);
        for (int code = 0; code < 32; code++) {
            answers.add((long) printer.would(code));
            answers.add((long) printer.doubts(code));
        }
        for (int code : new int[] {30, 4, 27, 1, 8, 2}) {
            answers.add((long) printer.receive(code));
        }
        answers.add((long) printer.run(7));
        if (printer.count(4) < 119) {
            answers.add((long) printer.type(27));
            answers.add((long) printer.punch(31));
        }
        answers.add((long) printer.wind(0));
        answers.add((long) printer.run(20));
        tellAll(answers, printer);
        answers.add((long) printer.setPlay(0));
        answers.add(printer.setUnshift(false) ? 1L : 0L);
        for (int place = 0; place < 16; place++) {
            answers.add((long) printer.setLine(place, 0, 0));
        }
        return answers;
    }

    private static void tellAll(List<Long> answers, TapePrinter printer) {
        answers.add(printer.digest());
        for (int what : Check.counts(printer)) {
            answers.add((long) what);
        }
        answers.add((long) printer.wrong());
        answers.add((long) printer.idle());
        answers.add(Double.doubleToLongBits(printer.mean()));
    }
}
