import java.util.Arrays;

/** Counts the checks of one test and tells those that fail. */
final class Check {
    interface Call {
        void make();
    }

    /** The test of one sentence. */
    interface Sentence {
        void hold(Check check);
    }

    private int made;
    private int failed;
    private String quoted = "";

    /** A sentence of the document, or a part of one, and its own test. */
    void sentence(String words, Sentence sentence) {
        int before = made;
        quoted = words + ": ";
        try {
            sentence.hold(this);
        } catch (RuntimeException e) {
            tell(false, "an unasked " + e);
        }
        tell(made > before, "nothing was checked");
        quoted = "";
    }

    void same(String what, long got, long due) {
        tell(got == due, what + " answered " + got + ", due is " + due);
    }

    void same(String what, boolean got, boolean due) {
        tell(got == due, what + " answered " + got + ", due is " + due);
    }

    void same(String what, double got, double due) {
        tell(got == due, what + " answered " + got + ", due is " + due);
    }

    void same(String what, int[] got, int... due) {
        tell(Arrays.equals(got, due),
                what + " is " + Arrays.toString(got) + ", due is " + Arrays.toString(due));
    }

    void outOfBounds(String what, TapePrinter printer, Call call) {
        refused(what, printer, IndexOutOfBoundsException.class, call);
    }

    void badArgument(String what, TapePrinter printer, Call call) {
        refused(what, printer, IllegalArgumentException.class, call);
    }

    void badState(String what, TapePrinter printer, Call call) {
        refused(what, printer, IllegalStateException.class, call);
    }

    /** A refused call throws just this exception, written by the program, and changes nothing. */
    private void refused(String what, TapePrinter printer, Class<?> due, Call call) {
        long before = printer.digest();
        RuntimeException thrown = null;
        try {
            call.make();
        } catch (RuntimeException e) {
            thrown = e;
        }
        tell(thrown != null && thrown.getClass() == due,
                what + " threw " + thrown + ", due is " + due.getName());
        tell(printer.digest() == before, what + " changed something");
    }

    void tell(boolean holds, String otherwise) {
        made++;
        if (!holds) {
            failed++;
            System.out.println("wrong: " + quoted + otherwise);
        }
    }

    void end() {
        System.out.println(made + " checks, " + failed + " wrong");
        if (failed != 0 || made == 0) {
            System.exit(1);
        }
    }

    static void punchAll(TapePrinter printer, int... codes) {
        for (int code : codes) {
            printer.punch(code);
        }
    }

    static void receiveAll(TapePrinter printer, int... codes) {
        for (int code : codes) {
            printer.receive(code);
        }
    }

    static void receiveMany(TapePrinter printer, int many, int code) {
        for (int k = 0; k < many; k++) {
            printer.receive(code);
        }
    }

    static int[] line(TapePrinter printer, int line) {
        int[] characters = new int[printer.length(line)];
        for (int place = 0; place < characters.length; place++) {
            characters[place] = printer.page(line, place);
        }
        return characters;
    }

    static int[] tape(TapePrinter printer) {
        int[] codes = new int[printer.count(4)];
        for (int place = 0; place < codes.length; place++) {
            codes[place] = printer.tape(place);
        }
        return codes;
    }

    static int[] counts(TapePrinter printer) {
        int[] counts = new int[11];
        for (int what = 0; what < counts.length; what++) {
            counts[what] = printer.count(what);
        }
        return counts;
    }
}
