/** A five unit teleprinter: its codes, its line and selector, its tape, its page. */
public final class TapePrinter {
    private static final int MOST_LINES = 20;
    private static final int MOST_IN_LINE = 40;
    private static final int MOST_ON_TAPE = 120;
    private static final int TURNS = 16;
    private static final int UNITS = 5;
    private static final int ALL_UNITS = 31;
    private static final int MOST_PLAY = 9;
    private static final int MOST_LATE = 9;
    private static final int MOST_COUNT = 10;
    private static final long DIGEST_START = 1373;

    private static final int TO_LETTERS = 31;
    private static final int TO_FIGURES = 27;
    private static final int BLANK_CODE = 4;
    private static final int NEW_LINE_CODE = 2;
    private static final int BELL_CODE = 8;

    private static final int NO_CHARACTER = 0;
    private static final int LETTERS = 26;
    private static final int BLANK = 53;
    private static final int NEW_LINE = 54;

    /** The code of each character; the first element stands for no character. */
    private static final int[] CODES = {
        0,
        1, 3, 5, 6, 7, 9, 10, 11, 12, 13, 14, 15, 16, 17, 18, 19, 20, 21, 22, 23, 24, 25, 26, 28, 29, 30,
        1, 3, 5, 6, 7, 9, 10, 11, 12, 13, 14, 15, 16, 17, 18, 19, 20, 21, 22, 23, 24, 25, 26, 28, 29, 30,
        4, 2
    };

    /** The character that each code prints when the shift is letters. */
    private static final int[] CHARACTERS = {
        0, 1, 54, 2, 53, 3, 4, 5, 0, 6, 7, 8, 9, 10, 11, 12,
        13, 14, 15, 16, 17, 18, 19, 20, 21, 22, 23, 0, 24, 25, 26, 0
    };

    private final Wire wire = new Wire();
    private final Sheet sheet = new Sheet();
    private final Row strip = new Row(MOST_ON_TAPE);
    private int reader;
    private boolean figures;
    private boolean unshifts;
    private int came;
    private int misread;
    private int lost;
    private int bells;

    public TapePrinter() {
    }

    // ---- codes

    public int code(int character) throws IndexOutOfBoundsException {
        if (!isCharacter(character)) {
            throw new IndexOutOfBoundsException("no such character");
        }
        return codeOf(character);
    }

    public int character(int code, boolean isFigures) throws IndexOutOfBoundsException {
        if (!isCode(code)) {
            throw new IndexOutOfBoundsException("no such code");
        }
        return characterOf(code, isFigures);
    }

    public int apart(int a, int b) throws IndexOutOfBoundsException {
        if (!isCharacter(a) || !isCharacter(b)) {
            throw new IndexOutOfBoundsException("no such character");
        }
        return Integer.bitCount(codeOf(a) ^ codeOf(b));
    }

    public int doubts(int code) throws IndexOutOfBoundsException {
        if (!isCode(code)) {
            throw new IndexOutOfBoundsException("no such code");
        }
        int own = characterOf(code, figures);
        int others = 0;
        for (int unit = 0; unit < UNITS; unit++) {
            if (characterOf(code ^ (1 << unit), figures) != own) {
                others++;
            }
        }
        return others;
    }

    // ---- the line and the selector

    public int setLine(int place, int late, int garble)
            throws IndexOutOfBoundsException, IllegalArgumentException {
        if (place < 0 || place >= TURNS) {
            throw new IndexOutOfBoundsException("no such place of the table");
        }
        if (late < -MOST_LATE || late > MOST_LATE) {
            throw new IllegalArgumentException("too early or too late");
        }
        if (!isCode(garble)) {
            throw new IllegalArgumentException("no such units");
        }
        int before = wire.lateAt(place);
        wire.change(place, late, garble);
        return before;
    }

    public int setPlay(int play) throws IllegalArgumentException {
        if (play < 0 || play > MOST_PLAY) {
            throw new IllegalArgumentException("no such play");
        }
        int before = wire.play();
        wire.changePlay(play);
        return before;
    }

    public boolean setUnshift(boolean does) {
        boolean before = unshifts;
        unshifts = does;
        return before;
    }

    public int receive(int code) throws IndexOutOfBoundsException {
        if (!isCode(code)) {
            throw new IndexOutOfBoundsException("no such code");
        }
        return takeIn(code);
    }

    // ---- the tape

    public int punch(int code) throws IndexOutOfBoundsException, IllegalStateException {
        if (!isCode(code)) {
            throw new IndexOutOfBoundsException("no such code");
        }
        if (strip.room() < 1) {
            throw new IllegalStateException("the tape is full");
        }
        strip.add(code);
        return strip.size();
    }

    public int type(int character) throws IndexOutOfBoundsException, IllegalStateException {
        if (!isCharacter(character)) {
            throw new IndexOutOfBoundsException("no such character");
        }
        boolean toFigures = isFigure(character);
        boolean shifts = dependsOnShift(codeOf(character)) && toFigures != figuresAtEnd();
        int needed = shifts ? 2 : 1;
        if (strip.room() < needed) {
            throw new IllegalStateException("the tape has no room");
        }
        if (shifts) {
            strip.add(toFigures ? TO_FIGURES : TO_LETTERS);
        }
        strip.add(codeOf(character));
        return needed;
    }

    public int rub(int place) throws IndexOutOfBoundsException {
        if (!strip.has(place)) {
            throw new IndexOutOfBoundsException("no such place of the tape");
        }
        int before = strip.at(place);
        strip.change(place, ALL_UNITS);
        return before;
    }

    public int run(int many) throws IllegalArgumentException {
        if (many < 1 || many > MOST_ON_TAPE) {
            throw new IllegalArgumentException("too few or too many");
        }
        int coming = Math.min(many, strip.size() - reader);
        for (int k = 0; k < coming; k++) {
            takeIn(strip.at(reader));
            reader++;
        }
        return coming;
    }

    public int wind(int place) throws IndexOutOfBoundsException {
        if (place < 0 || place > strip.size()) {
            throw new IndexOutOfBoundsException("no such place of the tape");
        }
        int before = reader;
        reader = place;
        return before;
    }

    // ---- what is there

    public int tape(int place) throws IndexOutOfBoundsException {
        if (!strip.has(place)) {
            throw new IndexOutOfBoundsException("no such place of the tape");
        }
        return strip.at(place);
    }

    public int page(int line, int place) throws IndexOutOfBoundsException {
        Row row = sheet.row(line);
        if (row == null || !row.has(place)) {
            throw new IndexOutOfBoundsException("no such line or place");
        }
        return row.at(place);
    }

    public int length(int line) throws IndexOutOfBoundsException {
        Row row = sheet.row(line);
        if (row == null) {
            throw new IndexOutOfBoundsException("no such line");
        }
        return row.size();
    }

    public int count(int what) throws IndexOutOfBoundsException {
        if (what < 0 || what > MOST_COUNT) {
            throw new IndexOutOfBoundsException("nothing such is counted");
        }
        return counted(what);
    }

    // ---- what would be

    public int would(int code) throws IndexOutOfBoundsException {
        if (!isCode(code)) {
            throw new IndexOutOfBoundsException("no such code");
        }
        return wire.readAs(code, came);
    }

    public int wrong() {
        int others = 0;
        for (int place = reader; place < strip.size(); place++) {
            int code = strip.at(place);
            if (wire.readAs(code, came + place - reader) != code) {
                others++;
            }
        }
        return others;
    }

    public int idle() {
        int idleShifts = 0;
        boolean isFigures = false;
        for (int place = 0; place < strip.size(); place++) {
            int code = strip.at(place);
            boolean behind = figuresBehind(code, isFigures);
            if (isShift(code) && (behind == isFigures || !servesBehind(place))) {
                idleShifts++;
            }
            isFigures = behind;
        }
        return idleShifts;
    }

    public int prints(int place) throws IndexOutOfBoundsException {
        if (!strip.has(place)) {
            throw new IndexOutOfBoundsException("no such place of the tape");
        }
        return characterOf(strip.at(place), figuresAhead(place));
    }

    public double mean() {
        int lines = sheet.lines();
        return lines < 1 ? 0.0 : (double) sheet.characters() / lines;
    }

    public long digest() {
        long d = DIGEST_START;
        for (int what = 0; what <= MOST_COUNT; what++) {
            d = mixed(d, counted(what));
        }
        for (int place = 0; place < TURNS; place++) {
            d = mixed(d, wire.lateAt(place));
            d = mixed(d, wire.garbledAt(place));
        }
        for (int line = 0; line < sheet.lines(); line++) {
            Row row = sheet.row(line);
            if (row != null) {
                d = mixedRow(mixed(d, row.size()), row);
            }
        }
        return mixedRow(d, strip);
    }

    private static long mixed(long d, int x) {
        return d * 31 + x;
    }

    private static long mixedRow(long start, Row row) {
        long d = start;
        for (int place = 0; place < row.size(); place++) {
            d = mixed(d, row.at(place));
        }
        return d;
    }

    private int counted(int what) {
        switch (what) {
            case 0: return sheet.lines();
            case 1: return sheet.characters();
            case 2: return figures ? 1 : 0;
            case 3: return wire.play();
            case 4: return strip.size();
            case 5: return reader;
            case 6: return came;
            case 7: return misread;
            case 8: return lost;
            case 9: return unshifts ? 1 : 0;
            default: return bells;
        }
    }

    private static boolean isCode(int code) {
        return code >= 0 && code <= ALL_UNITS;
    }

    private static boolean isCharacter(int character) {
        return character >= 1 && character <= NEW_LINE;
    }

    private static boolean isFigure(int character) {
        return character > LETTERS && character < BLANK;
    }

    private static int codeOf(int character) {
        return character >= 0 && character < CODES.length ? CODES[character] : 0;
    }

    private static int characterOf(int code, boolean isFigures) {
        int character = characterInLetters(code);
        return isFigures && dependsOnShift(code) ? character + LETTERS : character;
    }

    private static boolean dependsOnShift(int code) {
        int character = characterInLetters(code);
        return character != NO_CHARACTER && character <= LETTERS;
    }

    private static int characterInLetters(int code) {
        return code >= 0 && code < CHARACTERS.length ? CHARACTERS[code] : NO_CHARACTER;
    }

    private static boolean isShift(int code) {
        return code == TO_LETTERS || code == TO_FIGURES;
    }

    /** Whether the shift is figures behind a code, blanks being as they are now. */
    private boolean figuresBehind(int code, boolean isFigures) {
        if (code == TO_FIGURES) {
            return true;
        }
        return isFigures && !shiftsToLetters(code);
    }

    private boolean shiftsToLetters(int code) {
        return code == TO_LETTERS || code == NEW_LINE_CODE || (unshifts && code == BLANK_CODE);
    }

    /** The shift ahead of a place, if the tape is run from its beginning on over a good line. */
    private boolean figuresAhead(int end) {
        boolean isFigures = false;
        for (int place = 0; place < end && place < strip.size(); place++) {
            isFigures = figuresBehind(strip.at(place), isFigures);
        }
        return isFigures;
    }

    private boolean figuresAtEnd() {
        return figuresAhead(strip.size());
    }

    /** Whether a shift at a place has a letter or figure behind it, ahead of the next that sets the shift. */
    private boolean servesBehind(int shift) {
        for (int place = shift + 1; place < strip.size(); place++) {
            int code = strip.at(place);
            if (dependsOnShift(code)) {
                return true;
            }
            if (code == TO_FIGURES || shiftsToLetters(code)) {
                return false;
            }
        }
        return false;
    }

    private int takeIn(int code) {
        int read = wire.readAs(code, came);
        came++;
        if (read != code) {
            misread++;
        }
        obey(read);
        return read;
    }

    private void obey(int code) {
        int character = characterOf(code, figures);
        if (character == NEW_LINE) {
            sheet.beginLine();
        } else if (character != NO_CHARACTER && !sheet.add(character)) {
            lost++;
        }
        if (code == BELL_CODE) {
            bells++;
        }
        figures = figuresBehind(code, figures);
    }

    /** Numbers in their order, up to a most of them. */
    private static final class Row {
        private final int[] values;
        private int size;

        Row(int most) {
            values = new int[most < 0 ? 0 : most];
        }

        int size() {
            return size;
        }

        int room() {
            return values.length - size;
        }

        boolean has(int place) {
            return place >= 0 && place < size && place < values.length;
        }

        int at(int place) {
            return has(place) ? values[place] : 0;
        }

        void change(int place, int value) {
            if (has(place)) {
                values[place] = value;
            }
        }

        boolean add(int value) {
            if (size < 0 || size >= values.length) {
                return false;
            }
            values[size] = value;
            size++;
            return true;
        }

        void clear() {
            size = 0;
        }
    }

    /** The page: its rows are used again in a ring, so that no line has to be moved. */
    private static final class Sheet {
        private final Row[] rows = new Row[MOST_LINES];
        private int first;
        private int used = 1;

        Sheet() {
            for (int k = 0; k < rows.length; k++) {
                rows[k] = new Row(MOST_IN_LINE);
            }
        }

        int lines() {
            return used;
        }

        /** A line by its number, or null if there is no such line. */
        Row row(int line) {
            if (line < 0 || line >= used) {
                return null;
            }
            int index = (first + line) % MOST_LINES;
            return index >= 0 && index < rows.length ? rows[index] : null;
        }

        boolean add(int character) {
            Row last = row(used - 1);
            return last != null && last.add(character);
        }

        void beginLine() {
            if (used < MOST_LINES) {
                used++;
            } else {
                first = (first + 1) % MOST_LINES;
            }
            Row last = row(used - 1);
            if (last != null) {
                last.clear();
            }
        }

        int characters() {
            int sum = 0;
            for (int line = 0; line < used; line++) {
                Row row = row(line);
                if (row != null) {
                    sum += row.size();
                }
            }
            return sum;
        }
    }

    /** The line with the selector at its end: what is sent here is read there, perhaps as another code. */
    private static final class Wire {
        private final Row late = new Row(TURNS);
        private final Row garbled = new Row(TURNS);
        private int play;

        Wire() {
            for (int place = 0; place < TURNS; place++) {
                late.add(0);
                garbled.add(0);
            }
        }

        int play() {
            return play;
        }

        void changePlay(int value) {
            play = value;
        }

        int lateAt(int place) {
            return late.at(place);
        }

        int garbledAt(int place) {
            return garbled.at(place);
        }

        void change(int place, int lateness, int units) {
            late.change(place, lateness);
            garbled.change(place, units);
        }

        /** What a code is read as, if so many codes have come ahead of it. */
        int readAs(int code, int ahead) {
            int place = ahead % TURNS;
            int units = code ^ garbled.at(place);
            int lateness = late.at(place);
            if (lateness > play) {
                return units >> 1;
            }
            if (-lateness > play) {
                return ((units << 1) | 1) & ALL_UNITS;
            }
            return units;
        }
    }
}
