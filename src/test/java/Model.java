import java.util.ArrayList;
import java.util.List;

/** The document once more, written by lists and by units, to be compared with the program. */
final class Model {
    final List<List<Integer>> lines = new ArrayList<>();
    final List<Integer> tape = new ArrayList<>();
    final int[] late = new int[16];
    final int[] garble = new int[16];
    boolean figures;
    boolean unshifts;
    int play;
    int reader;
    int came;
    int misread;
    int lost;
    int bells;

    Model() {
        lines.add(new ArrayList<>());
    }

    static List<Integer> letterCodes() {
        List<Integer> codes = new ArrayList<>();
        for (int code = 0; code < 32; code++) {
            if (!List.of(31, 27, 4, 2, 8, 0).contains(code)) {
                codes.add(code);
            }
        }
        return codes;
    }

    static int code(int character) {
        if (character == 53) {
            return 4;
        }
        return character == 54 ? 2 : letterCodes().get((character - 1) % 26);
    }

    static int character(int code, boolean isFigures) {
        if (code == 4) {
            return 53;
        }
        if (code == 2) {
            return 54;
        }
        int index = letterCodes().indexOf(code);
        return index < 0 ? 0 : index + (isFigures ? 27 : 1);
    }

    static int unitsApart(int a, int b) {
        int apart = 0;
        for (int unit = 0; unit < 5; unit++) {
            if ((a >> unit & 1) != (b >> unit & 1)) {
                apart++;
            }
        }
        return apart;
    }

    int doubts(int code) {
        int doubts = 0;
        for (int other = 0; other < 32; other++) {
            if (unitsApart(code, other) == 1 && character(code, figures) != character(other, figures)) {
                doubts++;
            }
        }
        return doubts;
    }

    int read(int code, int turn) {
        boolean[] units = new boolean[7];
        units[0] = true;
        for (int unit = 0; unit < 5; unit++) {
            units[unit + 1] = (code >> unit & 1) != (garble[turn % 16] >> unit & 1);
        }
        int start = late[turn % 16];
        int slip = start > play ? 1 : start < -play ? -1 : 0;
        int read = 0;
        for (int finger = 0; finger < 5; finger++) {
            if (units[finger + 1 + slip]) {
                read += 1 << finger;
            }
        }
        return read;
    }

    int receive(int code) {
        int read = read(code, came);
        came++;
        misread += read == code ? 0 : 1;
        List<Integer> last = lines.get(lines.size() - 1);
        int character = character(read, figures);
        if (read == 2) {
            if (lines.size() == 20) {
                lines.remove(0);
            }
            lines.add(new ArrayList<>());
        } else if (character != 0 && last.size() == 40) {
            lost++;
        } else if (character != 0) {
            last.add(character);
        }
        bells += read == 8 ? 1 : 0;
        figures = shiftBehind(read, figures);
        return read;
    }

    boolean shiftBehind(int code, boolean ahead) {
        switch (code) {
            case 27: return true;
            case 31: case 2: return false;
            case 4: return ahead && !unshifts;
            default: return ahead;
        }
    }

    /** The shift ahead of each place of the tape, and at its end. */
    boolean[] shifts() {
        boolean[] shifts = new boolean[tape.size() + 1];
        for (int place = 0; place < tape.size(); place++) {
            shifts[place + 1] = shiftBehind(tape.get(place), shifts[place]);
        }
        return shifts;
    }

    List<Integer> typed(int character) {
        List<Integer> codes = new ArrayList<>();
        boolean isFigures = shifts()[tape.size()];
        if (character <= 26 && isFigures) {
            codes.add(31);
        } else if (character >= 27 && character <= 52 && !isFigures) {
            codes.add(27);
        }
        codes.add(code(character));
        return codes;
    }

    int wrong() {
        int wrong = 0;
        for (int k = 0; reader + k < tape.size(); k++) {
            int code = tape.get(reader + k);
            wrong += read(code, came + k) == code ? 0 : 1;
        }
        return wrong;
    }

    int idle() {
        int idle = 0;
        boolean[] shifts = shifts();
        for (int place = 0; place < tape.size(); place++) {
            int code = tape.get(place);
            if (code != 31 && code != 27) {
                continue;
            }
            int end = place + 1;
            boolean matters = false;
            while (end < tape.size() && !List.of(31, 27, 2).contains(tape.get(end))
                    && !(unshifts && tape.get(end) == 4)) {
                matters |= letterCodes().contains(tape.get(end));
                end++;
            }
            if (!matters || shifts[place] == (code == 27)) {
                idle++;
            }
        }
        return idle;
    }

    int characters() {
        int sum = 0;
        for (List<Integer> line : lines) {
            sum += line.size();
        }
        return sum;
    }

    long digest() {
        List<Integer> numbers = new ArrayList<>(List.of(lines.size(), characters(), figures ? 1 : 0, play,
                tape.size(), reader, came, misread, lost, unshifts ? 1 : 0));
        numbers.add(bells);
        for (int place = 0; place < 16; place++) {
            numbers.add(late[place]);
            numbers.add(garble[place]);
        }
        for (List<Integer> line : lines) {
            numbers.add(line.size());
            numbers.addAll(line);
        }
        numbers.addAll(tape);
        long d = 1373;
        for (int x : numbers) {
            d = d * 31 + x;
        }
        return d;
    }
}
