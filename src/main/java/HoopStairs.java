/** A hoop that is rolled down a stair of drops, landings and gates. */
public final class HoopStairs {
    public static final int NO_SUCH = -1, BAD_VALUE = -2, BAD_TEXT = -3, TOO_MANY = -4, NOT_POSSIBLE = -5, NONE = -6;
    public static final int TIP = 0, SHAKE = 1, DRAG = 2, TAP = 3;

    // Errors are told apart from answers, since a lean of a tap may be below 0 without being an error.
    private static final int FINE = 0;
    private static final int LEAN_OFFSET = 500;
    private static final int MOST_SAVING_TAPS = 20;
    private static final int SLOTS = 2;

    private final State now;
    private final History history;
    private final State[] slots;
    private final boolean[] filled;
    private final Pad pad;
    // What-if runs are rolled with this hoop, so that none has to be made in a call.
    private final Hoop trial;

    public HoopStairs() {
        now = new State();
        history = new History();
        slots = new State[SLOTS];
        for (int i = 0; i < SLOTS; i++) {
            slots[i] = new State();
        }
        filled = new boolean[SLOTS];
        pad = new Pad();
        trial = new Hoop();
    }

    // ---- changes

    public int set(int setting, int value) {
        if (!now.settings.allows(setting, value)) {
            return BAD_VALUE;
        }
        history.record(now);
        return now.settings.change(setting, value);
    }

    public int part(int place, int kind, int value) {
        int error = now.partError(place, kind, value);
        if (error != FINE) {
            return error;
        }
        history.record(now);
        return now.addPart(place, kind, value);
    }

    public int takeAway(int place) {
        if (!now.stair.has(place)) {
            return NO_SUCH;
        }
        history.record(now);
        return now.removePart(place);
    }

    public int hoop(int size) {
        if (!Hoop.allows(size)) {
            return BAD_VALUE;
        }
        history.record(now);
        return now.beginRun(size);
    }

    public int roll(int parts) {
        int error = now.rollError(parts);
        if (error != FINE) {
            return error;
        }
        history.record(now);
        return now.rollOver(parts);
    }

    public int tap(int from) {
        int error = now.tapError(from);
        if (error != FINE) {
            return error;
        }
        history.record(now);
        return now.tapFrom(from);
    }

    public int push() {
        int error = now.pushError();
        if (error != FINE) {
            return error;
        }
        history.record(now);
        return now.pushOn();
    }

    // ---- what there is

    public int of(int place, int what) {
        if (!now.stair.has(place)) {
            return NO_SUCH;
        }
        if (what < 0 || what >= Stair.COLUMNS) {
            return BAD_VALUE;
        }
        return now.stair.entry(place, what);
    }

    public int ofHoop(int what) {
        if (what < 0 || what > 7) {
            return BAD_VALUE;
        }
        if (!now.hoop.there) {
            return NONE;
        }
        return aboutHoop(now.hoop, what);
    }

    public int run(int rank, int what) {
        if (!now.log.has(rank)) {
            return NO_SUCH;
        }
        if (what < 0 || what >= RunLog.COLUMNS) {
            return BAD_VALUE;
        }
        return now.log.entry(rank, what);
    }

    public int count(int what) {
        if (what < 0 || what > 15) {
            return BAD_VALUE;
        }
        if (what == 14) {
            return pad.length;
        }
        if (what == 15) {
            return history.length;
        }
        if (what >= 10) {
            return now.settings.value(what - 10);
        }
        return now.number(what);
    }

    private static int aboutHoop(Hoop hoop, int what) {
        switch (what) {
            case 0: return hoop.size;
            case 1: return hoop.speed;
            case 2: return hoop.lean + LEAN_OFFSET;
            case 3: return hoop.wobble;
            case 4: return hoop.place;
            case 5: return hoop.ending;
            case 6: return hoop.taps;
            default: return hoop.pushes;
        }
    }

    // ---- what if; nothing changes

    public int ifRolled(int what) {
        if (what < 0 || what > 3) {
            return BAD_VALUE;
        }
        if (!now.hoop.rolls()) {
            return NOT_POSSIBLE;
        }
        trial.copyFrom(now.hoop);
        trial.greatestLean = 0;
        trial.rollOver(Stair.MOST, now.stair, now.settings);
        switch (what) {
            case 0: return trial.ending;
            case 1: return trial.place;
            case 2: return trial.speed;
            default: return trial.greatestLean;
        }
    }

    public int widest() {
        for (int size = Hoop.MOST_SIZE; size >= Hoop.LEAST_SIZE; size--) {
            trial.begin(size);
            trial.rollOver(Stair.MOST, now.stair, now.settings);
            if (trial.ending == Hoop.PASSED) {
                return size;
            }
        }
        return NONE;
    }

    public int saves(int from) {
        int error = now.tapError(from);
        if (error != FINE) {
            return error;
        }
        for (int taps = 0; taps <= MOST_SAVING_TAPS; taps++) {
            if (passesAfterTaps(taps, from)) {
                return taps;
            }
        }
        return NONE;
    }

    private boolean passesAfterTaps(int taps, int from) {
        trial.copyFrom(now.hoop);
        for (int i = 0; i < taps; i++) {
            trial.takeTap(from, now.settings.value(TAP));
        }
        trial.rollOver(Stair.MOST, now.stair, now.settings);
        return trial.ending == Hoop.PASSED;
    }

    public int traced(int size, int place, int what) {
        if (!now.stair.has(place)) {
            return NO_SUCH;
        }
        if (!Hoop.allows(size) || what < 0 || what > 2) {
            return BAD_VALUE;
        }
        trial.begin(size);
        trial.rollOver(place + 1, now.stair, now.settings);
        if (trial.ending != Hoop.ROLLS && trial.ending != Hoop.PASSED) {
            return NONE;
        }
        return aboutHoop(trial, what + 1);
    }

    // ---- texts

    public int put(long characters) {
        int added = Pad.charactersIn(characters);
        if (added == 0) {
            return BAD_VALUE;
        }
        if (pad.length + added > Pad.MOST) {
            return TOO_MANY;
        }
        return pad.append(characters, added);
    }

    public int wipe() {
        return pad.empty();
    }

    public int fault() {
        return pad.firstFault();
    }

    public int carryOut() {
        if (pad.firstFault() != NONE) {
            return BAD_TEXT;
        }
        history.record(now);
        int done = 0;
        pad.startReading();
        for (int i = 0; i < Pad.MOST && pad.readOrder(); i++) {
            if (orderError(pad.letter, pad.number) != FINE) {
                break;
            }
            carryOrder(pad.letter, pad.number);
            done++;
            pad.skipSeparator();
        }
        pad.empty();
        return done;
    }

    private int orderError(int letter, int number) {
        switch (letter) {
            case 'd': return now.partError(now.stair.length, Stair.DROP, number);
            case 'l': return now.partError(now.stair.length, Stair.LANDING, number);
            case 'g': return now.partError(now.stair.length, Stair.GATE, number);
            case 'h': return Hoop.allows(number) ? FINE : BAD_VALUE;
            case 'r': return now.rollError(number);
            case '<': return now.tapError(0);
            case '>': return now.tapError(1);
            default: return now.pushError();
        }
    }

    private int carryOrder(int letter, int number) {
        switch (letter) {
            case 'd': return now.addPart(now.stair.length, Stair.DROP, number);
            case 'l': return now.addPart(now.stair.length, Stair.LANDING, number);
            case 'g': return now.addPart(now.stair.length, Stair.GATE, number);
            case 'h': return now.beginRun(number);
            case 'r': return now.rollOver(number);
            case '<': return now.tapFrom(0);
            case '>': return now.tapFrom(1);
            default: return now.pushOn();
        }
    }

    // ---- undo, saving

    public int undo() {
        if (history.length == 0) {
            return NOT_POSSIBLE;
        }
        return history.stepBack(now);
    }

    public int save(int slot) {
        if (slot < 0 || slot >= SLOTS) {
            return BAD_VALUE;
        }
        slots[slot].copyFrom(now);
        filled[slot] = true;
        return now.stair.length;
    }

    public int restore(int slot) {
        if (slot < 0 || slot >= SLOTS) {
            return BAD_VALUE;
        }
        if (!filled[slot]) {
            return NOT_POSSIBLE;
        }
        history.record(now);
        now.copyFrom(slots[slot]);
        return now.stair.length;
    }

    /** The four settings. */
    private static final class Settings {
        static final int COUNT = 4;
        private static final int[] LEAST = {10, 0, 0, 1};
        private static final int[] GREATEST = {99, 20, 20, 30};
        private static final int[] FIRST = {45, 4, 3, 8};

        private final int[] values;

        Settings() {
            values = FIRST.clone();
        }

        void copyFrom(Settings other) {
            System.arraycopy(other.values, 0, values, 0, COUNT);
        }

        boolean allows(int setting, int value) {
            return setting >= 0 && setting < COUNT && value >= LEAST[setting] && value <= GREATEST[setting];
        }

        int value(int setting) {
            return setting >= 0 && setting < COUNT ? values[setting] : 0;
        }

        int change(int setting, int value) {
            int previous = value(setting);
            if (allows(setting, value)) {
                values[setting] = value;
            }
            return previous;
        }
    }

    /** The parts in their row, and how many hoops ended at each. */
    private static final class Stair {
        static final int MOST = 20;
        static final int DROP = 0, LANDING = 1, GATE = 2;
        static final int KIND = 0, VALUE = 1, COLUMNS = 5;
        private static final int MOST_VALUE = 9, MOST_WIDTH = 99;
        // The columns behind KIND and VALUE count the endings FELL, STUCK and STOPPED.
        private static final int FIRST_ENDING_COLUMN = 2;

        private final int[][] columns;
        private int length;

        Stair() {
            columns = new int[COLUMNS][MOST];
            length = 0;
        }

        void copyFrom(Stair other) {
            for (int i = 0; i < COLUMNS; i++) {
                System.arraycopy(other.columns[i], 0, columns[i], 0, MOST);
            }
            length = other.length;
        }

        boolean has(int place) {
            return place >= 0 && place < length && place < MOST;
        }

        static boolean allows(int kind, int value) {
            if (kind < DROP || kind > GATE || value < 1) {
                return false;
            }
            return value <= (kind == GATE ? MOST_WIDTH : MOST_VALUE);
        }

        int entry(int place, int column) {
            if (!has(place) || column < 0 || column >= COLUMNS) {
                return 0;
            }
            return columns[column][place];
        }

        void insert(int place, int kind, int value) {
            if (place < 0 || place > length || length >= MOST) {
                return;
            }
            for (int i = 0; i < COLUMNS; i++) {
                System.arraycopy(columns[i], place, columns[i], place + 1, length - place);
                columns[i][place] = 0;
            }
            columns[KIND][place] = kind;
            columns[VALUE][place] = value;
            length++;
        }

        void remove(int place) {
            if (!has(place)) {
                return;
            }
            for (int i = 0; i < COLUMNS; i++) {
                System.arraycopy(columns[i], place + 1, columns[i], place, length - place - 1);
            }
            length--;
        }

        void noteEnd(int place, int ending) {
            if (has(place) && ending >= Hoop.FELL && ending <= Hoop.STOPPED) {
                columns[FIRST_ENDING_COLUMN + ending - Hoop.FELL][place]++;
            }
        }

        int sumOf(int kind) {
            int sum = 0;
            for (int place = 0; place < length; place++) {
                if (entry(place, KIND) == kind) {
                    sum += entry(place, VALUE);
                }
            }
            return sum;
        }

        int narrowestGate() {
            int narrowest = 0;
            for (int place = 0; place < length; place++) {
                int width = entry(place, VALUE);
                if (entry(place, KIND) == GATE && (narrowest == 0 || width < narrowest)) {
                    narrowest = width;
                }
            }
            return narrowest;
        }
    }

    /** A hoop in its run, if there is one. */
    private static final class Hoop {
        static final int ROLLS = 0, FELL = 1, STUCK = 2, STOPPED = 3, PASSED = 4;
        static final int LEAST_SIZE = 1, MOST_SIZE = 60;
        private static final int FIRST_SPEED = 10, MOST_SPEED = 99, MOST_WOBBLE = 99;

        private boolean there;
        private int size;
        private int speed;
        private int lean;
        private int wobble;
        private int place;
        private int ending;
        private int taps;
        private int pushes;
        // Without a sign, behind parts at which the hoop was neither stuck nor stopped.
        private int greatestLean;

        Hoop() {
            there = false;
        }

        void copyFrom(Hoop other) {
            there = other.there;
            size = other.size;
            speed = other.speed;
            lean = other.lean;
            wobble = other.wobble;
            place = other.place;
            ending = other.ending;
            taps = other.taps;
            pushes = other.pushes;
            greatestLean = other.greatestLean;
        }

        static boolean allows(int size) {
            return size >= LEAST_SIZE && size <= MOST_SIZE;
        }

        void begin(int newSize) {
            there = true;
            size = newSize;
            speed = FIRST_SPEED;
            lean = 0;
            wobble = 0;
            place = 0;
            ending = ROLLS;
            taps = 0;
            pushes = 0;
            greatestLean = 0;
        }

        void vanish() {
            there = false;
        }

        boolean rolls() {
            return there && ending == ROLLS;
        }

        void takeTap(int from, int change) {
            lean += from == 0 ? change : -change;
            shakeBy(2);
            taps++;
        }

        void takePush() {
            speedUpBy(5);
            pushes++;
        }

        void rollOver(int parts, Stair stair, Settings settings) {
            for (int i = 0; i < parts && rolls(); i++) {
                if (stair.has(place)) {
                    meet(stair.entry(place, Stair.KIND), stair.entry(place, Stair.VALUE), settings);
                    goBehind(stair, settings.value(TIP));
                } else {
                    ending = PASSED;
                }
            }
        }

        private void meet(int kind, int value, Settings settings) {
            switch (kind) {
                case Stair.DROP:
                    dropBy(value, settings.value(SHAKE));
                    break;
                case Stair.LANDING:
                    rollAlong(value, settings.value(DRAG));
                    ending = speed == 0 ? STOPPED : ROLLS;
                    break;
                default:
                    ending = size + wobble / 4 <= value ? ROLLS : STUCK;
                    break;
            }
        }

        private void goBehind(Stair stair, int tip) {
            if (ending != ROLLS) {
                return;
            }
            int leaning = Math.abs(lean);
            greatestLean = Math.max(greatestLean, leaning);
            if (leaning >= tip) {
                ending = FELL;
                return;
            }
            place++;
            if (!stair.has(place)) {
                ending = PASSED;
            }
        }

        private void dropBy(int height, int shake) {
            speedUpBy(height * 4);
            shakeBy(shake * height);
            lean += place % 2 == 0 ? wobble / 4 : -(wobble / 4);
        }

        private void rollAlong(int length, int drag) {
            for (int i = 0; i < length; i++) {
                speed = Math.max(0, speed - drag);
                wobble -= wobble / 4;
                rightItselfBy(speed / 20);
            }
        }

        private void rightItselfBy(int change) {
            if (lean > 0) {
                lean = Math.max(0, lean - change);
            } else {
                lean = Math.min(0, lean + change);
            }
        }

        private void speedUpBy(int change) {
            speed = Math.min(MOST_SPEED, speed + change);
        }

        private void shakeBy(int change) {
            wobble = Math.min(MOST_WOBBLE, wobble + change);
        }
    }

    /** The latest runs that are over, the latest one first. */
    private static final class RunLog {
        static final int COLUMNS = 4;
        private static final int MOST = 10;

        private final int[][] columns;
        private int length;

        RunLog() {
            columns = new int[COLUMNS][MOST];
            length = 0;
        }

        void copyFrom(RunLog other) {
            for (int i = 0; i < COLUMNS; i++) {
                System.arraycopy(other.columns[i], 0, columns[i], 0, MOST);
            }
            length = other.length;
        }

        boolean has(int rank) {
            return rank >= 0 && rank < length && rank < MOST;
        }

        int entry(int rank, int column) {
            if (!has(rank) || column < 0 || column >= COLUMNS) {
                return 0;
            }
            return columns[column][rank];
        }

        void add(Hoop hoop) {
            for (int i = 0; i < COLUMNS; i++) {
                System.arraycopy(columns[i], 0, columns[i], 1, MOST - 1);
            }
            columns[0][0] = hoop.size;
            columns[1][0] = hoop.ending;
            columns[2][0] = hoop.place;
            columns[3][0] = hoop.taps;
            length = Math.min(MOST, length + 1);
        }
    }

    /** All that undo() and restore() bring back. */
    private static final class State {
        private static final int MOST_ROLLED = 20;

        private final Settings settings;
        private final Stair stair;
        private final Hoop hoop;
        private final RunLog log;
        // By the way in which they ended; the first one is not used.
        private final int[] ended;
        private int runs;
        private int taps;

        State() {
            settings = new Settings();
            stair = new Stair();
            hoop = new Hoop();
            log = new RunLog();
            ended = new int[Hoop.PASSED + 1];
            runs = 0;
            taps = 0;
        }

        void copyFrom(State other) {
            settings.copyFrom(other.settings);
            stair.copyFrom(other.stair);
            hoop.copyFrom(other.hoop);
            log.copyFrom(other.log);
            System.arraycopy(other.ended, 0, ended, 0, Hoop.PASSED + 1);
            runs = other.runs;
            taps = other.taps;
        }

        int partError(int place, int kind, int value) {
            if (place < 0 || place > stair.length) {
                return NO_SUCH;
            }
            if (!Stair.allows(kind, value)) {
                return BAD_VALUE;
            }
            return stair.length >= Stair.MOST ? TOO_MANY : FINE;
        }

        int addPart(int place, int kind, int value) {
            stair.insert(place, kind, value);
            hoop.vanish();
            return stair.length;
        }

        int removePart(int place) {
            stair.remove(place);
            hoop.vanish();
            return stair.length;
        }

        int beginRun(int size) {
            hoop.begin(size);
            runs++;
            return runs;
        }

        int rollError(int parts) {
            if (parts < 1 || parts > MOST_ROLLED) {
                return BAD_VALUE;
            }
            return hoop.rolls() ? FINE : NOT_POSSIBLE;
        }

        int rollOver(int parts) {
            hoop.rollOver(parts, stair, settings);
            if (!hoop.rolls()) {
                noteEnd();
            }
            return hoop.ending;
        }

        private void noteEnd() {
            stair.noteEnd(hoop.place, hoop.ending);
            log.add(hoop);
            if (hoop.ending >= Hoop.FELL && hoop.ending <= Hoop.PASSED) {
                ended[hoop.ending]++;
            }
        }

        int tapError(int from) {
            if (from != 0 && from != 1) {
                return BAD_VALUE;
            }
            return hoop.rolls() ? FINE : NOT_POSSIBLE;
        }

        int tapFrom(int from) {
            hoop.takeTap(from, settings.value(TAP));
            taps++;
            return hoop.lean + LEAN_OFFSET;
        }

        int pushError() {
            return hoop.rolls() ? FINE : NOT_POSSIBLE;
        }

        int pushOn() {
            hoop.takePush();
            return hoop.speed;
        }

        int number(int what) {
            switch (what) {
                case 0: return stair.length;
                case 1: return runs;
                case 2: return ended[Hoop.FELL];
                case 3: return ended[Hoop.STUCK];
                case 4: return ended[Hoop.STOPPED];
                case 5: return ended[Hoop.PASSED];
                case 6: return stair.narrowestGate();
                case 7: return stair.sumOf(Stair.DROP);
                case 8: return stair.sumOf(Stair.LANDING);
                default: return taps;
            }
        }
    }

    /** The states before the latest changes, in a ring. */
    private static final class History {
        private static final int MOST = 6;

        private final State[] states;
        // Where the next state goes; the latest one is just before it.
        private int next;
        private int length;

        History() {
            states = new State[MOST];
            for (int i = 0; i < MOST; i++) {
                states[i] = new State();
            }
            next = 0;
            length = 0;
        }

        void record(State state) {
            if (!has(next)) {
                return;
            }
            states[next].copyFrom(state);
            next = (next + 1) % MOST;
            length = Math.min(MOST, length + 1);
        }

        int stepBack(State state) {
            int latest = (next + MOST - 1) % MOST;
            if (length > 0 && has(latest)) {
                state.copyFrom(states[latest]);
                next = latest;
                length--;
            }
            return length;
        }

        private static boolean has(int index) {
            return index >= 0 && index < MOST;
        }
    }

    /** The text of orders, and a reader that goes through it. */
    private static final class Pad {
        static final int MOST = 80;
        private static final int LEAST_CODE = 33, GREATEST_CODE = 126;
        private static final int CODES_IN_LONG = 8;
        // No character of the pad has this code.
        private static final int BEHIND_THE_END = 0;

        private final int[] codes;
        private int length;
        private int at;
        private int letter;
        private int number;

        Pad() {
            codes = new int[MOST];
            length = 0;
            at = 0;
        }

        private static int codeIn(long characters, int fromTheLast) {
            return (int) ((characters >>> (8 * fromTheLast)) & 255);
        }

        /** How many characters there are, 0 if they are none or not right. */
        static int charactersIn(long characters) {
            int found = 0;
            for (int i = 0; i < CODES_IN_LONG; i++) {
                int code = codeIn(characters, i);
                if (code == 0) {
                    continue;
                }
                if (found < i || code < LEAST_CODE || code > GREATEST_CODE) {
                    return 0;
                }
                found++;
            }
            return found;
        }

        int append(long characters, int added) {
            for (int i = added - 1; i >= 0 && length < MOST; i--) {
                codes[length] = codeIn(characters, i);
                length++;
            }
            return length;
        }

        int empty() {
            int previous = length;
            length = 0;
            return previous;
        }

        int firstFault() {
            startReading();
            for (int i = 0; i < MOST && readOrder(); i++) {
                if (at == length) {
                    return NONE;
                }
                if (!skipSeparator()) {
                    break;
                }
            }
            return at;
        }

        void startReading() {
            at = 0;
        }

        /** Leaves the order in letter and number; false, with the fault at its place, if there is none. */
        boolean readOrder() {
            letter = codeHere();
            number = 1;
            switch (letter) {
                case 'd':
                case 'l':
                    at++;
                    return readDigit();
                case 'g':
                case 'h':
                    at++;
                    return readNumber();
                case 'r':
                    at++;
                    return !isDigit(codeHere()) || readNumber();
                case '<':
                case '>':
                case '!':
                    at++;
                    return true;
                default:
                    return false;
            }
        }

        boolean skipSeparator() {
            if (codeHere() != ';') {
                return false;
            }
            at++;
            return true;
        }

        private boolean readDigit() {
            if (!isDigit(codeHere())) {
                return false;
            }
            number = codeHere() - '0';
            at++;
            return true;
        }

        private boolean readNumber() {
            if (!readDigit()) {
                return false;
            }
            // Behind a leading 0, and behind two digits, no digit can stand.
            if (number != 0 && isDigit(codeHere())) {
                number = number * 10 + codeHere() - '0';
                at++;
            }
            return true;
        }

        private int codeHere() {
            return at >= 0 && at < length && at < MOST ? codes[at] : BEHIND_THE_END;
        }

        private static boolean isDigit(int code) {
            return code >= '0' && code <= '9';
        }
    }
}
