import java.util.List;

/** Long mixed runs of calls, each answer and the digest behind it compared with the model. */
public final class ModelTest {
    private static final int RUNS = 500;
    private static final int MOST_CALLS = 512;
    // Two refused calls, each between two digests, and the digest behind the step.
    private static final int MOST_CALLS_OF_A_STEP = 7;

    private final Check check;
    private final TapePrinter printer = new TapePrinter();
    private final Model model = new Model();
    private final int flavour;
    private long seed;
    private int calls;

    private ModelTest(Check check, int run) {
        this.check = check;
        this.seed = run * 7919L + 17;
        this.flavour = run % 5;
    }

    public static void main(String[] args) {
        Check check = new Check();
        for (int run = 0; run < RUNS; run++) {
            ModelTest test = new ModelTest(check, run);
            for (int step = 0; test.calls <= MOST_CALLS - MOST_CALLS_OF_A_STEP; step++) {
                test.call(test.anyCall());
                test.same("run " + run + ", digest behind step " + step, test.printer.digest(), test.model.digest());
            }
        }
        check.end();
    }

    /** A number of 0 up to below a bound, always the same ones for a run. */
    private int next(int bound) {
        seed = seed * 6364136223846793005L + 1442695040888963407L;
        return (int) ((seed >>> 33) % bound);
    }

    /** In some runs half of the calls lengthen the tape, so that it gets full. */
    private int anyCall() {
        return flavour == 3 && next(2) == 0 ? 4 + next(6) : next(24);
    }

    private int anyCode() {
        if (next(4) == 0) {
            return List.of(31, 27, 4, 2, 8, 0).get(next(6));
        }
        int code = next(32);
        return code == 2 && flavour == 1 ? 5 : code;
    }

    private void same(String what, long got, long due) {
        calls++;
        check.same(what, got, due);
    }

    private void outOfBounds(String what, Check.Call call) {
        calls += 3;
        check.outOfBounds(what, printer, call);
    }

    private void badState(String what, Check.Call call) {
        calls += 3;
        check.badState(what, printer, call);
    }

    private void mean() {
        calls++;
        check.same("mean", printer.mean(), (double) model.characters() / model.lines.size());
    }

    private void call(int which) {
        switch (which) {
            case 0, 1, 2, 3 -> receive();
            case 4, 5, 6 -> punch();
            case 7, 8, 9 -> type();
            case 10 -> rub();
            case 11, 12 -> run();
            case 13 -> wind();
            case 14 -> setLine();
            case 15 -> setPlay();
            case 16 -> setUnshift();
            case 17 -> codes();
            case 18 -> page();
            case 19 -> would();
            case 20 -> same("wrong", printer.wrong(), model.wrong());
            case 21 -> same("idle", printer.idle(), model.idle());
            case 22 -> prints();
            default -> mean();
        }
    }

    private void receive() {
        int code = anyCode();
        same("receive", printer.receive(code), model.receive(code));
    }

    private void punch() {
        int code = anyCode();
        if (model.tape.size() == 120) {
            badState("punch", () -> printer.punch(code));
        } else {
            model.tape.add(code);
            same("punch", printer.punch(code), model.tape.size());
        }
    }

    private void type() {
        int character = 1 + next(54);
        List<Integer> typed = model.typed(character);
        if (model.tape.size() + typed.size() > 120) {
            badState("type", () -> printer.type(character));
        } else {
            model.tape.addAll(typed);
            same("type", printer.type(character), typed.size());
        }
    }

    private void rub() {
        int place = next(model.tape.size() + 2);
        if (place >= model.tape.size()) {
            outOfBounds("rub", () -> printer.rub(place));
        } else {
            same("rub", printer.rub(place), model.tape.set(place, 31));
        }
    }

    private void run() {
        int many = flavour == 2 ? 1 + next(120) : 1 + next(20);
        int came = 0;
        while (came < many && model.reader < model.tape.size()) {
            model.receive(model.tape.get(model.reader));
            model.reader++;
            came++;
        }
        same("run", printer.run(many), came);
    }

    private void wind() {
        int place = next(model.tape.size() + 2);
        if (place > model.tape.size()) {
            outOfBounds("wind", () -> printer.wind(place));
        } else {
            same("wind", printer.wind(place), model.reader);
            model.reader = place;
        }
    }

    private void setLine() {
        int place = next(16);
        int late = next(19) - 9;
        int garble = next(2) * next(32);
        same("setLine", printer.setLine(place, late, garble), model.late[place]);
        model.late[place] = late;
        model.garble[place] = garble;
    }

    private void setPlay() {
        int play = next(10);
        same("setPlay", printer.setPlay(play), model.play);
        model.play = play;
    }

    private void setUnshift() {
        boolean does = next(2) == 1;
        calls++;
        check.same("setUnshift", printer.setUnshift(does), model.unshifts);
        model.unshifts = does;
    }

    private void codes() {
        int a = 1 + next(54);
        int b = 1 + next(54);
        int code = next(32);
        same("code", printer.code(a), Model.code(a));
        same("character", printer.character(code, true), Model.character(code, true));
        same("character", printer.character(code, false), Model.character(code, false));
        same("apart", printer.apart(a, b), Model.unitsApart(Model.code(a), Model.code(b)));
        same("doubts", printer.doubts(code), model.doubts(code));
    }

    private void page() {
        int line = next(model.lines.size() + 1);
        int place = next(41);
        if (line == model.lines.size()) {
            outOfBounds("length", () -> printer.length(line));
            outOfBounds("page", () -> printer.page(line, place));
            return;
        }
        List<Integer> due = model.lines.get(line);
        same("length", printer.length(line), due.size());
        if (place < due.size()) {
            same("page", printer.page(line, place), due.get(place));
        } else {
            outOfBounds("page", () -> printer.page(line, place));
        }
    }

    private void would() {
        int code = anyCode();
        same("would", printer.would(code), model.read(code, model.came));
    }

    private void prints() {
        int place = next(model.tape.size() + 1);
        if (place == model.tape.size()) {
            outOfBounds("prints", () -> printer.prints(place));
        } else {
            same("prints", printer.prints(place),
                    Model.character(model.tape.get(place), model.shifts()[place]));
        }
    }
}
