/** Lines of a log that are kept by templates, which can be learned from lines that differ in one word. */
public final class LineTemplates {
    public static final int NONE = -9999;

    private static final int MAX_TEXT = 50;
    private static final int MAX_CODE = 255;
    private static final int MAX_CHARACTERS = 40;
    private static final int MAX_PIECES = 12;
    private static final int MAX_DIGITS = 6;
    private static final int MAX_VALUE = 999999;
    private static final int MAX_LINES = 24;
    private static final int MAX_TEMPLATES = 12;
    private static final int MAX_REMEMBERED = 14;
    private static final int SAVE_SLOTS = 2;
    private static final int MAX_COMMANDS = 4;
    private static final int MAX_SIMULATED = 30;
    private static final int MOST_COST_TOLD = 999;

    private static final int NO_KIND = -1;
    private static final int WORD = 0;
    private static final int BLANKS = 1;
    private static final int SIGN = 2;
    private static final int NUMBER = 3;
    private static final int WORD_SLOT = 4;

    private static final int NO_DIFFERENCE = -1;

    private static final long FACTOR = 6364136223846793005L;
    private static final long ADDEND = 1442695040888963407L;

    private final char[] text = new char[MAX_TEXT];
    private int textLength;
    private final Line reading;
    private final Line[] simulated;
    private final State present;
    private final State trial;
    private final State spare;
    private final History history;
    private final State[] saved;
    private final boolean[] filled;

    public LineTemplates() {
        Line empty = new Line();
        textLength = 0;
        reading = new Line();
        // One more than a state can hold, because a line is written before it is known whether it can be taken.
        simulated = new Line[MAX_LINES + 1];
        for (int i = 0; i < simulated.length; i++) {
            simulated[i] = new Line();
        }
        present = new State(empty);
        trial = new State(empty);
        spare = new State(empty);
        history = new History(empty);
        saved = new State[SAVE_SLOTS];
        for (int i = 0; i < saved.length; i++) {
            saved[i] = new State(empty);
        }
        filled = new boolean[SAVE_SLOTS];
    }

    // ---- text

    public int append(int c) throws IllegalArgumentException, IllegalStateException {
        if (c < 0 || c > MAX_CODE) {
            throw new IllegalArgumentException("no character code");
        }
        if (textLength >= text.length) {
            throw new IllegalStateException("the text is full");
        }
        text[textLength] = (char) c;
        textLength++;
        return textLength;
    }

    public int clearText() {
        int previous = textLength;
        textLength = 0;
        return previous;
    }

    public int errorPosition() {
        return readText(reading);
    }

    // ---- what there is

    public int about(int what) throws IllegalArgumentException {
        switch (what) {
            case 0:
                return present.lineCount;
            case 1:
                return present.templateCount;
            case 2:
                return Counts.charactersOfLines(present);
            case 3:
                return Costs.ofLines(present);
            case 4:
                return Costs.ofTemplates(present);
            case 5:
                return Counts.slotsOfTemplates(present, NUMBER);
            case 6:
                return Counts.slotsOfTemplates(present, WORD_SLOT);
            case 7:
                return Counts.differentWords(present);
            default:
                throw new IllegalArgumentException("no such number of the log");
        }
    }

    public int line(int i, int what) throws IndexOutOfBoundsException, IllegalArgumentException {
        checkLine(i);
        switch (what) {
            case 0:
                return present.templateAt(i);
            case 1:
                return present.lineAt(i).length;
            case 2:
                return Costs.ofLineAt(present, present.lineAt(i), present.templateAt(i), i);
            case 3:
                return Counts.linesBefore(present, present.templateAt(i), i);
            default:
                throw new IllegalArgumentException("no such number of a line");
        }
    }

    public int charAt(int i, int k) throws IndexOutOfBoundsException, IllegalArgumentException {
        checkLine(i);
        if (k < 0) {
            throw new IllegalArgumentException("the index is negative");
        }
        return present.lineAt(i).characterAt(k);
    }

    public int value(int i, int p) throws IndexOutOfBoundsException {
        checkLine(i);
        checkPiece(present.lineAt(i), p);
        return present.lineAt(i).valueAt(p);
    }

    public int template(int t, int what) throws IndexOutOfBoundsException, IllegalArgumentException {
        checkTemplate(t);
        switch (what) {
            case 0:
                return present.sampleAt(t).pieces;
            case 1:
                return Counts.linesBefore(present, t, present.lineCount);
            case 2:
                return Counts.slotsOfTemplate(present, t, NUMBER);
            case 3:
                return Counts.slotsOfTemplate(present, t, WORD_SLOT);
            case 4:
                return Costs.ofTemplate(present, t);
            case 5:
                return present.firstOf(t);
            default:
                throw new IllegalArgumentException("no such number of a template");
        }
    }

    public int piece(int t, int p, int what) throws IndexOutOfBoundsException, IllegalArgumentException {
        checkTemplate(t);
        checkPiece(present.sampleAt(t), p);
        int kind = present.kindIn(t, p);
        switch (what) {
            case 0:
                return kind;
            case 1:
                return isSlot(kind) ? 0 : present.sampleAt(t).sizeAt(p);
            case 2:
                return Counts.differentThings(present, t, p);
            default:
                throw new IllegalArgumentException("no such number of a piece");
        }
    }

    public int rises(int t, int p) throws IndexOutOfBoundsException {
        checkTemplate(t);
        checkPiece(present.sampleAt(t), p);
        return present.kindIn(t, p) == NUMBER ? Counts.risingLines(present, t, p) : NONE;
    }

    // ---- actions

    public int take() throws IllegalStateException {
        if (readText(reading) != NONE) {
            throw new IllegalStateException("the text is not a line");
        }
        int t = present.templateFor(reading);
        if (t == NONE) {
            throw new IllegalStateException("there is no room for the line");
        }
        Line taken = new Line();
        readText(taken);
        history.remember(present);
        present.put(taken, t);
        return t;
    }

    public int again(int i) throws IndexOutOfBoundsException, IllegalStateException {
        checkLine(i);
        Line copied = present.lineAt(i);
        int t = present.templateFor(copied);
        if (t == NONE) {
            throw new IllegalStateException("there is no room for the line");
        }
        history.remember(present);
        present.put(copied, t);
        return present.lineCount - 1;
    }

    public int remove(int i) throws IndexOutOfBoundsException {
        checkLine(i);
        history.remember(present);
        present.dropLine(i);
        return present.templateCount;
    }

    public int learn() {
        history.remember(present);
        return Learning.learnFirstPair(present);
    }

    public int learnAll() {
        history.remember(present);
        Learning.learnAllPairs(present);
        return present.templateCount;
    }

    public int open(int t, int p) throws IndexOutOfBoundsException, IllegalStateException {
        checkTemplate(t);
        checkPiece(present.sampleAt(t), p);
        if (present.kindIn(t, p) != WORD) {
            throw new IllegalStateException("the piece is no fixed word");
        }
        history.remember(present);
        present.openWord(t, p);
        return Costs.ofTemplate(present, t);
    }

    public int forget() throws IllegalStateException {
        if (!trial.takeLinesOf(present)) {
            throw new IllegalStateException("the lines need too many templates");
        }
        history.remember(present);
        present.copyFrom(trial);
        return present.templateCount;
    }

    public int undo() throws IllegalStateException {
        if (history.count == 0) {
            throw new IllegalStateException("no state is remembered");
        }
        history.takeBack(present);
        return history.count;
    }

    // ---- what would be

    public int which() {
        return readText(reading) == NONE ? present.firstFit(reading) : NONE;
    }

    public int wouldCost() {
        if (readText(reading) != NONE) {
            return NONE;
        }
        return Costs.ofLineAt(present, reading, present.firstFit(reading), present.lineCount);
    }

    public int saves() {
        trial.copyFrom(present);
        if (Learning.learnFirstPair(trial) == NONE) {
            return NONE;
        }
        return Costs.ofAll(present) - Costs.ofAll(trial);
    }

    public int next(int t, int k) throws IndexOutOfBoundsException, IllegalArgumentException {
        checkTemplate(t);
        if (k < 0) {
            throw new IllegalArgumentException("the index is negative");
        }
        return Expected.characterAt(present, t, k);
    }

    public int withValue(int v) throws IllegalArgumentException {
        if (v < 0 || v > MAX_VALUE) {
            throw new IllegalArgumentException("no value of a number");
        }
        return Counts.linesWithValue(present, v);
    }

    // ---- scripts, simulations

    public int runScript(int n, long script) throws IllegalArgumentException {
        if (n < 1 || n > MAX_COMMANDS) {
            throw new IllegalArgumentException("no such number of commands");
        }
        if (script < 0 || Script.withoutLowestGroups(script, n) != 0) {
            throw new IllegalArgumentException("the script has not the digits of its commands");
        }
        trial.copyFrom(present);
        for (int i = 0; i < n; i++) {
            int command = (int) (Script.withoutLowestGroups(script, n - 1 - i) % 10000);
            if (!Script.succeeds(command, trial, spare)) {
                return i;
            }
        }
        return NONE;
    }

    public int simulate(long seed, int m) throws IllegalArgumentException {
        if (m < 1 || m > MAX_SIMULATED) {
            throw new IllegalArgumentException("no such number of lines");
        }
        trial.copyFrom(present);
        simulateLines(seed, m);
        return 1000 * trial.templateCount + Math.min(Costs.ofAll(trial), MOST_COST_TOLD);
    }

    // ---- save slots

    public int save(int slot) throws IndexOutOfBoundsException {
        checkSlot(slot);
        saved[slot].copyFrom(present);
        filled[slot] = true;
        return present.lineCount;
    }

    public int restore(int slot) throws IndexOutOfBoundsException, IllegalStateException {
        checkSlot(slot);
        if (!filled[slot]) {
            throw new IllegalStateException("nothing has been saved in the slot");
        }
        present.copyFrom(saved[slot]);
        history.forgetAll();
        return present.lineCount;
    }

    // ---- helpers of the calls above

    private void checkLine(int i) throws IndexOutOfBoundsException {
        if (i < 0 || i >= present.lineCount) {
            throw new IndexOutOfBoundsException("no such line");
        }
    }

    private void checkTemplate(int t) throws IndexOutOfBoundsException {
        if (t < 0 || t >= present.templateCount) {
            throw new IndexOutOfBoundsException("no such template");
        }
    }

    private static void checkPiece(Line owner, int p) throws IndexOutOfBoundsException {
        if (p < 0 || p >= owner.pieces) {
            throw new IndexOutOfBoundsException("no such piece");
        }
    }

    private static void checkSlot(int slot) throws IndexOutOfBoundsException {
        if (slot < 0 || slot >= SAVE_SLOTS) {
            throw new IndexOutOfBoundsException("no such save slot");
        }
    }

    /** Reads the text into the line; returns the error position, NONE if the text is a line. */
    private int readText(Line into) {
        into.clear();
        for (int k = 0; k < textLength && k < text.length; k++) {
            if (!into.addCharacter(text[k])) {
                return k;
            }
        }
        return textLength == 0 ? 0 : NONE;
    }

    private void simulateLines(long seed, int m) {
        long x = seed;
        int v = 7;
        int used = 0;
        for (int i = 0; i < m && used < simulated.length; i++) {
            x = x * FACTOR + ADDEND;
            int r = (int) (x >>> 33);
            v += r % 3;
            Line made = simulated[used];
            writeSimulated(made, r, v);
            int t = trial.templateFor(made);
            if (t == NONE) {
                Learning.learnAllPairs(trial);
            } else {
                trial.put(made, t);
                used++;
            }
        }
    }

    private static void writeSimulated(Line made, int r, int v) {
        made.clear();
        int letter = 'a' + r / 4 % 3;
        made.addCharacter(letter);
        made.addCharacter(letter);
        made.addCharacter(' ');
        made.addNumber(v);
        made.addCharacter(r / 16 % 4 == 0 ? '=' : ':');
        made.addCharacter('m' + r / 64 % 5);
        if (r / 32768 % 2 == 0) {
            made.addCharacter(' ');
            made.addNumber(r / 512 % 50);
        }
    }

    private static boolean isSlot(int kind) {
        return kind == NUMBER || kind == WORD_SLOT;
    }

    private static int kindOfCharacter(int c) {
        if (c >= 'a' && c <= 'z') {
            return WORD;
        }
        if (c >= '0' && c <= '9') {
            return NUMBER;
        }
        if (c == ' ') {
            return BLANKS;
        }
        return c == ':' || c == '=' ? SIGN : NO_KIND;
    }

    private static int countDigits(int number) {
        int digits = 1;
        for (int rest = number / 10; rest > 0 && digits < 10; rest /= 10) {
            digits++;
        }
        return digits;
    }

    /** The character of the digit that has so many others behind it. */
    private static int digitCharacter(int number, int behind) {
        int rest = number;
        for (int i = 0; i < behind && rest > 0; i++) {
            rest /= 10;
        }
        return '0' + rest % 10;
    }

    /** The characters of one line, and its pieces. States share a line: while one holds it, it is not changed. */
    private static final class Line {
        private final char[] text = new char[MAX_CHARACTERS];
        private final int[] kinds = new int[MAX_PIECES];
        private final int[] starts = new int[MAX_PIECES];
        private final int[] sizes = new int[MAX_PIECES];
        private final int[] values = new int[MAX_PIECES];
        private int length;
        private int pieces;

        private void clear() {
            length = 0;
            pieces = 0;
        }

        /** Adds a character; false if the line cannot go on with it. */
        private boolean addCharacter(int c) {
            int kind = kindOfCharacter(c);
            int p = growsLastPiece(kind) ? pieces - 1 : pieces;
            if (kind == NO_KIND || length >= MAX_CHARACTERS || p < 0 || p >= MAX_PIECES) {
                return false;
            }
            if (p == pieces) {
                kinds[p] = kind;
                starts[p] = length;
                sizes[p] = 0;
                values[p] = 0;
                pieces++;
            }
            if (kind == NUMBER) {
                if (sizes[p] >= MAX_DIGITS) {
                    return false;
                }
                values[p] = values[p] * 10 + (c - '0');
            }
            text[length] = (char) c;
            length++;
            sizes[p]++;
            return true;
        }

        private boolean growsLastPiece(int kind) {
            return kind != SIGN && pieces > 0 && kindAt(pieces - 1) == kind;
        }

        private void addNumber(int number) {
            for (int behind = countDigits(number) - 1; behind >= 0; behind--) {
                addCharacter(digitCharacter(number, behind));
            }
        }

        private int characterAt(int k) {
            if (k < 0 || k >= length) {
                return NONE;
            }
            return text[k];
        }

        private int kindAt(int p) {
            return p >= 0 && p < pieces ? kinds[p] : NO_KIND;
        }

        private int startAt(int p) {
            return p >= 0 && p < pieces ? starts[p] : length;
        }

        private int sizeAt(int p) {
            return p >= 0 && p < pieces ? sizes[p] : 0;
        }

        private int valueAt(int p) {
            return p >= 0 && p < pieces && kinds[p] == NUMBER ? values[p] : NONE;
        }

        /** Whether piece p has the same characters as piece q of the other line. */
        private boolean isWrittenLike(int p, Line other, int q) {
            if (p < 0 || p >= pieces || q < 0 || q >= other.pieces || sizes[p] != other.sizes[q]) {
                return false;
            }
            int here = starts[p];
            int there = other.starts[q];
            for (int k = here; k < here + sizes[p] && k < length && there < other.length; k++) {
                if (text[k] != other.text[there]) {
                    return false;
                }
                there++;
            }
            return true;
        }
    }

    /** All lines and templates. A template is a line that it was made for, and the words in it that are slots now. */
    private static final class State {
        private final Line empty;
        private final Line[] lines = new Line[MAX_LINES];
        private final int[] templateOf = new int[MAX_LINES];
        private final Line[] samples = new Line[MAX_TEMPLATES];
        private final int[] openWords = new int[MAX_TEMPLATES];
        private int lineCount;
        private int templateCount;

        /** The empty line stands wherever there is no other, so that no place is ever null. */
        private State(Line empty) {
            this.empty = empty;
            for (int i = 0; i < MAX_LINES; i++) {
                lines[i] = empty;
            }
            for (int t = 0; t < MAX_TEMPLATES; t++) {
                samples[t] = empty;
            }
        }

        private void copyFrom(State other) {
            lineCount = other.lineCount;
            templateCount = other.templateCount;
            for (int i = 0; i < lineCount; i++) {
                lines[i] = other.lines[i];
                templateOf[i] = other.templateOf[i];
            }
            for (int t = 0; t < templateCount; t++) {
                samples[t] = other.samples[t];
                openWords[t] = other.openWords[t];
            }
        }

        private boolean hasLine(int i) {
            return i >= 0 && i < lineCount;
        }

        private Line lineAt(int i) {
            return i >= 0 && i < lineCount ? lines[i] : empty;
        }

        private int templateAt(int i) {
            return i >= 0 && i < lineCount ? templateOf[i] : NONE;
        }

        private Line sampleAt(int t) {
            return t >= 0 && t < templateCount ? samples[t] : empty;
        }

        private boolean isOpen(int t, int p) {
            return t >= 0 && t < templateCount && p >= 0 && p < MAX_PIECES && (openWords[t] >> p & 1) != 0;
        }

        private int kindIn(int t, int p) {
            return isOpen(t, p) ? WORD_SLOT : sampleAt(t).kindAt(p);
        }

        private int firstOf(int t) {
            for (int i = 0; i < lineCount; i++) {
                if (templateOf[i] == t) {
                    return i;
                }
            }
            return NONE;
        }

        /** The last line of the template that stands before the place; NONE if there is none. */
        private int lastOf(int t, int place) {
            for (int i = lineCount - 1; i >= 0; i--) {
                if (i < place && templateOf[i] == t) {
                    return i;
                }
            }
            return NONE;
        }

        private boolean fits(Line line, int t) {
            Line sample = sampleAt(t);
            if (line.pieces != sample.pieces) {
                return false;
            }
            for (int p = 0; p < line.pieces; p++) {
                if (line.kindAt(p) != sample.kindAt(p)) {
                    return false;
                }
                if (line.kindAt(p) != NUMBER && !isOpen(t, p) && !line.isWrittenLike(p, sample, p)) {
                    return false;
                }
            }
            return true;
        }

        private int firstFit(Line line) {
            for (int t = 0; t < templateCount; t++) {
                if (fits(line, t)) {
                    return t;
                }
            }
            return NONE;
        }

        /** The template that the line would get, with the next number if it is a new one; NONE if there is no room. */
        private int templateFor(Line line) {
            if (lineCount >= MAX_LINES) {
                return NONE;
            }
            int fit = firstFit(line);
            return fit == NONE && templateCount < MAX_TEMPLATES ? templateCount : fit;
        }

        private void put(Line line, int t) {
            if (lineCount >= MAX_LINES || t < 0 || t > templateCount || t >= MAX_TEMPLATES) {
                return;
            }
            if (t == templateCount) {
                samples[t] = line;
                openWords[t] = 0;
                templateCount++;
            }
            lines[lineCount] = line;
            templateOf[lineCount] = t;
            lineCount++;
        }

        /** Takes all lines of the other state, with no templates at first; false if they need too many. */
        private boolean takeLinesOf(State other) {
            lineCount = 0;
            templateCount = 0;
            for (int i = 0; i < other.lineCount; i++) {
                Line line = other.lineAt(i);
                int t = templateFor(line);
                if (t == NONE) {
                    return false;
                }
                put(line, t);
            }
            return true;
        }

        private void dropLine(int i) {
            if (!hasLine(i)) {
                return;
            }
            int t = templateOf[i];
            for (int j = i + 1; j < lineCount; j++) {
                lines[j - 1] = lines[j];
                templateOf[j - 1] = templateOf[j];
            }
            lineCount--;
            if (firstOf(t) == NONE) {
                dropTemplate(t);
            }
        }

        private void dropTemplate(int t) {
            if (t < 0 || t >= templateCount) {
                return;
            }
            for (int u = t + 1; u < templateCount; u++) {
                samples[u - 1] = samples[u];
                openWords[u - 1] = openWords[u];
            }
            templateCount--;
            for (int i = 0; i < lineCount; i++) {
                if (templateOf[i] > t) {
                    templateOf[i]--;
                }
            }
        }

        private void openWord(int t, int p) {
            if (t >= 0 && t < templateCount && p >= 0 && p < MAX_PIECES) {
                openWords[t] |= 1 << p;
            }
        }

        /** Gives all lines of template u the template t; u goes. */
        private void moveLines(int u, int t) {
            for (int i = 0; i < lineCount; i++) {
                if (templateOf[i] == u) {
                    templateOf[i] = t;
                }
            }
            dropTemplate(u);
        }
    }

    /** The states before the last actions, in a ring. */
    private static final class History {
        private final State[] states = new State[MAX_REMEMBERED];
        private int oldest;
        private int count;

        private History(Line empty) {
            for (int i = 0; i < MAX_REMEMBERED; i++) {
                states[i] = new State(empty);
            }
        }

        private void remember(State state) {
            if (count == MAX_REMEMBERED) {
                oldest = placeBehindOldest(1);
                count--;
            }
            states[placeBehindOldest(count)].copyFrom(state);
            count++;
        }

        private void takeBack(State state) {
            if (count > 0) {
                count--;
                state.copyFrom(states[placeBehindOldest(count)]);
            }
        }

        private void forgetAll() {
            count = 0;
        }

        private int placeBehindOldest(int distance) {
            return Math.floorMod(oldest + distance, MAX_REMEMBERED);
        }
    }

    /** What lines and templates cost. */
    private static final class Costs {
        private static int ofAll(State state) {
            return ofLines(state) + ofTemplates(state);
        }

        private static int ofLines(State state) {
            int cost = 0;
            for (int i = 0; i < state.lineCount; i++) {
                cost += ofLineAt(state, state.lineAt(i), state.templateAt(i), i);
            }
            return cost;
        }

        /** What the line costs with the template t (NONE for a new one) behind the lines that are before the place. */
        private static int ofLineAt(State state, Line line, int t, int place) {
            int before = state.lastOf(t, place);
            int cost = 1;
            for (int p = 0; p < line.pieces; p++) {
                if (line.kindAt(p) == NUMBER) {
                    cost += ofNumber(state, line, p, before);
                } else if (state.isOpen(t, p)) {
                    cost += Counts.isSeenBefore(state, line, t, p, place) ? 1 : line.sizeAt(p);
                }
            }
            return cost;
        }

        private static int ofNumber(State state, Line line, int p, int before) {
            int digits = line.sizeAt(p);
            if (before == NONE || digits != state.lineAt(before).sizeAt(p)) {
                return digits;
            }
            return line.valueAt(p) == Expected.valueBehind(state, before, p) ? 1 : digits;
        }

        private static int ofTemplates(State state) {
            int cost = 0;
            for (int t = 0; t < state.templateCount; t++) {
                cost += ofTemplate(state, t);
            }
            return cost;
        }

        private static int ofTemplate(State state, int t) {
            Line sample = state.sampleAt(t);
            int cost = 0;
            for (int p = 0; p < sample.pieces; p++) {
                cost += isSlot(state.kindIn(t, p)) ? 1 : sample.sizeAt(p);
            }
            return cost;
        }
    }

    /** Numbers of lines, slots, words and other things. */
    private static final class Counts {
        private static int charactersOfLines(State state) {
            int characters = 0;
            for (int i = 0; i < state.lineCount; i++) {
                characters += state.lineAt(i).length;
            }
            return characters;
        }

        private static int slotsOfTemplates(State state, int kind) {
            int slots = 0;
            for (int t = 0; t < state.templateCount; t++) {
                slots += slotsOfTemplate(state, t, kind);
            }
            return slots;
        }

        private static int slotsOfTemplate(State state, int t, int kind) {
            int slots = 0;
            for (int p = 0; p < state.sampleAt(t).pieces; p++) {
                if (state.kindIn(t, p) == kind) {
                    slots++;
                }
            }
            return slots;
        }

        private static int linesBefore(State state, int t, int place) {
            int lines = 0;
            for (int i = 0; i < place && i < state.lineCount; i++) {
                if (state.templateAt(i) == t) {
                    lines++;
                }
            }
            return lines;
        }

        private static int linesWithValue(State state, int v) {
            int lines = 0;
            for (int i = 0; i < state.lineCount; i++) {
                if (hasValue(state.lineAt(i), v)) {
                    lines++;
                }
            }
            return lines;
        }

        private static boolean hasValue(Line line, int v) {
            for (int p = 0; p < line.pieces; p++) {
                if (line.valueAt(p) == v) {
                    return true;
                }
            }
            return false;
        }

        private static int differentWords(State state) {
            int words = 0;
            for (int i = 0; i < state.lineCount; i++) {
                Line line = state.lineAt(i);
                for (int p = 0; p < line.pieces; p++) {
                    if (line.kindAt(p) == WORD && !isWordBefore(state, i, p)) {
                        words++;
                    }
                }
            }
            return words;
        }

        /** Whether the word at piece p of line i stands in a line before it too, or in a piece before it. */
        private static boolean isWordBefore(State state, int i, int p) {
            Line line = state.lineAt(i);
            for (int j = 0; j <= i; j++) {
                Line other = state.lineAt(j);
                int end = j == i ? p : other.pieces;
                for (int q = 0; q < end; q++) {
                    if (line.isWrittenLike(p, other, q)) {
                        return true;
                    }
                }
            }
            return false;
        }

        private static int differentThings(State state, int t, int p) {
            if (!isSlot(state.kindIn(t, p))) {
                return 1;
            }
            int things = 0;
            for (int i = 0; i < state.lineCount; i++) {
                if (state.templateAt(i) == t && !isSeenBefore(state, state.lineAt(i), t, p, i)) {
                    things++;
                }
            }
            return things;
        }

        /** Whether a line of the template before the place has the same thing as the line at piece p. */
        private static boolean isSeenBefore(State state, Line line, int t, int p, int place) {
            boolean isNumber = line.kindAt(p) == NUMBER;
            for (int i = 0; i < place && i < state.lineCount; i++) {
                Line other = state.lineAt(i);
                if (state.templateAt(i) != t) {
                    continue;
                }
                if (isNumber ? line.valueAt(p) == other.valueAt(p) : line.isWrittenLike(p, other, p)) {
                    return true;
                }
            }
            return false;
        }

        private static int risingLines(State state, int t, int p) {
            int lines = 0;
            int step = 0;
            int later = 0;
            for (int i = state.lineCount - 1; i >= 0; i--) {
                if (state.templateAt(i) != t) {
                    continue;
                }
                int number = state.lineAt(i).valueAt(p);
                if (lines == 1) {
                    step = later - number;
                }
                if (lines > 1 && later - number != step) {
                    return lines;
                }
                later = number;
                lines++;
            }
            return lines;
        }
    }

    /** Which templates can be learned from, and what becomes of them. */
    private static final class Learning {
        /** Learns from the first two templates t and u that can be; returns 100 * t + u, NONE if there are none. */
        private static int learnFirstPair(State state) {
            for (int t = 0; t < state.templateCount; t++) {
                for (int u = t + 1; u < state.templateCount; u++) {
                    int p = onlyDifference(state, t, u);
                    if (p != NONE) {
                        state.openWord(t, p);
                        state.moveLines(u, t);
                        return 100 * t + u;
                    }
                }
            }
            return NONE;
        }

        private static void learnAllPairs(State state) {
            int round = 0;
            while (round < MAX_TEMPLATES && learnFirstPair(state) != NONE) {
                round++;
            }
        }

        /** The piece at which both differ, NO_DIFFERENCE if there is none; NONE if they cannot be learned from. */
        private static int onlyDifference(State state, int t, int u) {
            Line one = state.sampleAt(t);
            Line two = state.sampleAt(u);
            if (one.pieces != two.pieces) {
                return NONE;
            }
            int difference = NO_DIFFERENCE;
            for (int p = 0; p < one.pieces; p++) {
                int kind = state.kindIn(t, p);
                if (kind == state.kindIn(u, p) && (isSlot(kind) || one.isWrittenLike(p, two, p))) {
                    continue;
                }
                if (difference != NO_DIFFERENCE || one.kindAt(p) != WORD || two.kindAt(p) != WORD) {
                    return NONE;
                }
                difference = p;
            }
            return difference;
        }
    }

    /** The line that would come next. */
    private static final class Expected {
        /** The value of line i at piece p, plus what it rose by since the line of the same template before it. */
        private static int valueBehind(State state, int i, int p) {
            int number = state.lineAt(i).valueAt(p);
            int before = state.lastOf(state.templateAt(i), i);
            return before == NONE ? number : number + (number - state.lineAt(before).valueAt(p));
        }

        private static int characterAt(State state, int t, int k) {
            int last = state.lastOf(t, state.lineCount);
            Line line = state.lineAt(last);
            int ahead = k;
            for (int p = 0; p < line.pieces; p++) {
                boolean isNumber = line.kindAt(p) == NUMBER;
                int number = isNumber ? Math.max(0, valueBehind(state, last, p)) : 0;
                int size = isNumber ? digitsFor(number, line.sizeAt(p)) : line.sizeAt(p);
                if (ahead < size) {
                    return isNumber ? digitCharacter(number, size - 1 - ahead)
                            : line.characterAt(line.startAt(p) + ahead);
                }
                ahead -= size;
            }
            return NONE;
        }

        private static int digitsFor(int number, int least) {
            return Math.min(MAX_DIGITS, Math.max(least, countDigits(number)));
        }
    }

    /** Scripts of commands, groups of four digits each. */
    private static final class Script {
        private static long withoutLowestGroups(long script, int groups) {
            long rest = script;
            for (int i = 0; i < groups; i++) {
                rest /= 10000;
            }
            return rest;
        }

        /** Runs the command on the state; false if it fails. */
        private static boolean succeeds(int command, State state, State spare) {
            int operand = command % 1000;
            int pair = operand / 10;
            int last = operand % 10;
            switch (command / 1000) {
                case 1:
                    return last == 0 && takesAgain(state, pair);
                case 2:
                    return last == 0 && removes(state, pair);
                case 3:
                    return operand == 0 && Learning.learnFirstPair(state) != NONE;
                case 4:
                    if (operand == 0) {
                        Learning.learnAllPairs(state);
                    }
                    return operand == 0;
                case 5:
                    return last == 0 && opens(state, pair / 10, pair % 10);
                case 6:
                    if (operand != 0 || !spare.takeLinesOf(state)) {
                        return false;
                    }
                    state.copyFrom(spare);
                    return true;
                case 7:
                    return operand < 100 && state.templateCount <= operand;
                case 8:
                    return Costs.ofAll(state) <= operand;
                case 9:
                    return state.hasLine(pair) && state.templateAt(pair) == last;
                default:
                    return false;
            }
        }

        private static boolean takesAgain(State state, int i) {
            Line line = state.lineAt(i);
            int t = state.hasLine(i) ? state.templateFor(line) : NONE;
            if (t == NONE) {
                return false;
            }
            state.put(line, t);
            return true;
        }

        private static boolean removes(State state, int i) {
            if (!state.hasLine(i)) {
                return false;
            }
            state.dropLine(i);
            return true;
        }

        private static boolean opens(State state, int t, int p) {
            if (state.kindIn(t, p) != WORD) {
                return false;
            }
            state.openWord(t, p);
            return true;
        }
    }
}
