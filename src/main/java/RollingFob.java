/** Fobs and doors that agree on a rolling number, though presses go unheard. */
public final class RollingFob {
    public static final int NONE = -1;

    private static final int FOBS = 4;
    private static final int DOORS = 3;
    private static final int SLOTS = 4;
    private static final int SETTINGS = 3;
    private static final int RECORDED = 8;
    private static final int SAVED = 6;
    private static final int BUFFER = 60;

    private static final int MOST_SECRET = 9999;
    private static final int MOST_COUNTER = 9999;
    private static final int MOST_BATTERY = 999;
    private static final int MOST_MASK = 7;
    private static final int MOST_NUMBER = 65535;
    private static final int MOST_OPENS_IN = 50;
    private static final int MOST_UNHEARD = 99;

    private static final int FOB_LOOKS = 5;
    private static final int SLOT_LOOKS = 4;
    private static final int DOOR_LOOKS = 8;
    private static final int COUNTS = 8;

    // What a door does with a number, as ifHeard tells it.
    private static final int OPENS = 0;
    private static final int NOTED = 1;
    private static final int WRONG = 2;
    private static final int LOCKED = 3;

    private static final long DIGEST_START = 3257L;
    private static final int DIGEST_NUMBER = 7919;

    private final State state;
    private final History history;
    private final Text text;
    // What would be is tried on this door, so that no real one changes.
    private final Door trial;

    public RollingFob() {
        state = new State();
        history = new History();
        text = new Text();
        trial = new Door();
    }

    // ---- fobs

    public int make(int fob, int secret, int counter) throws IndexOutOfBoundsException, IllegalArgumentException {
        needIndex(fob, FOBS);
        needRange(secret, 0, MOST_SECRET);
        needRange(counter, 0, MOST_COUNTER);
        history.keep(state);
        Fob made = state.fobs[fob];
        int previous = made.counter;
        made.secret = secret;
        made.counter = counter;
        return previous;
    }

    public int battery(int fob, int battery) throws IndexOutOfBoundsException, IllegalArgumentException {
        needIndex(fob, FOBS);
        needRange(battery, 0, MOST_BATTERY);
        history.keep(state);
        Fob powered = state.fobs[fob];
        int previous = powered.battery;
        powered.battery = battery;
        return previous;
    }

    public int press(int fob, int doors)
            throws IndexOutOfBoundsException, IllegalArgumentException, IllegalStateException {
        needIndex(fob, FOBS);
        needRange(doors, 0, MOST_MASK);
        needState(state.canPress(fob));
        history.keep(state);
        return state.pressFob(fob, doors);
    }

    public int again(int place, int doors) throws IndexOutOfBoundsException, IllegalArgumentException {
        needIndex(place, state.air.length);
        needRange(doors, 0, MOST_MASK);
        history.keep(state);
        return state.sendAgain(place, doors);
    }

    // ---- doors

    public int learn(int door, int slot, int fob) throws IndexOutOfBoundsException {
        needIndex(door, DOORS);
        needIndex(slot, SLOTS);
        needIndex(fob, FOBS);
        history.keep(state);
        Door taught = state.doors[door];
        taught.slots[slot].learnFrom(state.fobs[fob]);
        return taught.learntSlots();
    }

    public int forget(int door, int slot) throws IndexOutOfBoundsException {
        needIndex(door, DOORS);
        needIndex(slot, SLOTS);
        history.keep(state);
        Slot forgotten = state.doors[door].slots[slot];
        int previous = forgotten.learnt ? 1 : 0;
        forgotten.empty();
        return previous;
    }

    public int shut(int door) throws IndexOutOfBoundsException {
        needIndex(door, DOORS);
        history.keep(state);
        Door closed = state.doors[door];
        int previous = closed.open ? 1 : 0;
        closed.open = false;
        return previous;
    }

    public int unlock(int door) throws IndexOutOfBoundsException {
        needIndex(door, DOORS);
        history.keep(state);
        Door freed = state.doors[door];
        int previous = freed.wrongInRow;
        freed.wrongInRow = 0;
        return previous;
    }

    public int set(int setting, int value) throws IndexOutOfBoundsException, IllegalArgumentException {
        needIndex(setting, SETTINGS);
        needRange(value, Settings.least(setting), Settings.most(setting));
        history.keep(state);
        int previous = state.settings.value(setting);
        state.settings.change(setting, value);
        return previous;
    }

    // ---- texts

    public int append(int code) throws IllegalArgumentException, IllegalStateException {
        needRange(code, 33, 126);
        needState(text.length < BUFFER);
        text.add(code);
        return text.length;
    }

    public int clearBuffer() {
        int previous = text.length;
        text.length = 0;
        return previous;
    }

    public int firstError() {
        return text.goodLength();
    }

    public int play() throws IllegalArgumentException {
        needArgument(text.isComplete());
        history.keep(state);
        int done = 0;
        int start = 0;
        for (int at = 0; at <= text.length; at++) {
            if (text.endsPart(at)) {
                if (!playPart(start, at)) {
                    break;
                }
                done++;
                start = at + 1;
            }
        }
        text.length = 0;
        return done;
    }

    public int undo() throws IllegalStateException {
        needState(history.length > 0);
        history.restore(state);
        return history.length;
    }

    // ---- looks; nothing is changed

    public int fob(int fob, int what) throws IndexOutOfBoundsException, IllegalArgumentException {
        needIndex(fob, FOBS);
        needRange(what, 0, FOB_LOOKS - 1);
        return state.fobs[fob].look(what);
    }

    public int slot(int door, int slot, int what) throws IndexOutOfBoundsException, IllegalArgumentException {
        needIndex(door, DOORS);
        needIndex(slot, SLOTS);
        needRange(what, 0, SLOT_LOOKS - 1);
        return state.doors[door].slots[slot].look(what);
    }

    public int door(int door, int what) throws IndexOutOfBoundsException, IllegalArgumentException {
        needIndex(door, DOORS);
        needRange(what, 0, DOOR_LOOKS - 1);
        return state.doors[door].look(what, state.settings);
    }

    public int air(int place) throws IllegalArgumentException {
        needArgument(place >= 0);
        return state.air.number(place);
    }

    public int count(int what) throws IllegalArgumentException {
        needRange(what, 0, COUNTS - 1);
        return counted(what);
    }

    public int setting(int setting) throws IndexOutOfBoundsException {
        needIndex(setting, SETTINGS);
        return state.settings.value(setting);
    }

    // ---- what would be; nothing is changed

    public int ifHeard(int door, int number) throws IndexOutOfBoundsException, IllegalArgumentException {
        needIndex(door, DOORS);
        needRange(number, 0, MOST_NUMBER);
        return tryNumber(state.doors[door], number);
    }

    public int opensIn(int fob, int door) throws IndexOutOfBoundsException {
        needIndex(fob, FOBS);
        needIndex(door, DOORS);
        return pressesToOpen(state.fobs[fob], state.doors[door]);
    }

    public int unheard(int fob, int door) throws IndexOutOfBoundsException {
        needIndex(fob, FOBS);
        needIndex(door, DOORS);
        return mostUnheard(state.fobs[fob], state.doors[door]);
    }

    public int useful(int door) throws IndexOutOfBoundsException {
        needIndex(door, DOORS);
        return firstUseful(state.doors[door]);
    }

    public double openShare() {
        int opened = state.timesOpened();
        int all = opened + state.wrongNumbers();
        if (all <= 0) {
            return 1.0;
        }
        return (double) opened / (double) all;
    }

    public long digest() {
        long hash = DIGEST_START;
        for (int what = 0; what < COUNTS; what++) {
            hash = mixed(hash, counted(what));
        }
        for (int setting = 0; setting < SETTINGS; setting++) {
            hash = mixed(hash, state.settings.value(setting));
        }
        for (Fob fob : state.fobs) {
            for (int what = 0; what < FOB_LOOKS; what++) {
                hash = mixed(hash, fob.look(what));
            }
        }
        for (Door door : state.doors) {
            hash = mixedDoor(hash, door);
        }
        for (int place = 0; place < state.air.length; place++) {
            hash = mixed(hash, state.air.number(place));
        }
        hash = mixed(hash, tryNumber(state.doors[0], DIGEST_NUMBER));
        hash = mixed(hash, shareBits(openShare()));
        hash = mixed(hash, text.length);
        for (int at = 0; at < text.length; at++) {
            hash = mixed(hash, text.code(at));
        }
        return hash;
    }

    // ---- wrong arguments and states

    private static void needIndex(int index, int bound) {
        if (index < 0 || index >= bound) {
            throw new IndexOutOfBoundsException();
        }
    }

    private static void needRange(int value, int least, int most) {
        needArgument(value >= least && value <= most);
    }

    private static void needArgument(boolean holds) {
        if (!holds) {
            throw new IllegalArgumentException();
        }
    }

    private static void needState(boolean holds) {
        if (!holds) {
            throw new IllegalStateException();
        }
    }

    // ---- numbers

    private static int numberOf(int secret, int counter) {
        return ((counter * 40503 + secret * 7919) ^ (secret * 31 + counter)) & MOST_NUMBER;
    }

    private static int counterBehind(int counter) {
        return counter < MOST_COUNTER ? counter + 1 : 0;
    }

    // ---- parts of the calls

    private boolean playPart(int start, int end) {
        int what = text.digit(start + 1);
        switch (text.code(start)) {
            case 'f':
                if (!state.canPress(what)) {
                    return false;
                }
                state.pressFob(what, text.mask(start + 2, end));
                return true;
            case 'r':
                if (!state.canSendAgain(what)) {
                    return false;
                }
                state.sendAgain(what, text.mask(start + 2, end));
                return true;
            case 'c':
                return state.shutDoor(what);
            default:
                return false;
        }
    }

    private int counted(int what) {
        switch (what) {
            case 0: return state.presses();
            case 1: return state.sentAgain;
            case 2: return state.timesOpened();
            case 3: return state.openedAgain;
            case 4: return state.openDoors();
            case 5: return state.lockedDoors();
            case 6: return state.air.length;
            case 7: return history.length;
            default: return NONE;
        }
    }

    private int tryNumber(Door door, int number) {
        trial.copyFrom(door);
        return trial.hear(number, state.settings);
    }

    private int pressesToOpen(Fob fob, Door door) {
        trial.copyFrom(door);
        int most = Math.min(MOST_OPENS_IN, fob.battery);
        int counter = fob.counter;
        for (int presses = 1; presses <= most; presses++) {
            counter = counterBehind(counter);
            int heard = trial.hear(numberOf(fob.secret, counter), state.settings);
            if (heard == OPENS) {
                return presses;
            }
            if (heard == LOCKED) {
                return NONE;
            }
        }
        return NONE;
    }

    private int mostUnheard(Fob fob, Door door) {
        int most = NONE;
        int counter = fob.counter;
        for (int lost = 0; lost <= MOST_UNHEARD; lost++) {
            counter = counterBehind(counter);
            if (tryNumber(door, numberOf(fob.secret, counter)) != OPENS) {
                return most;
            }
            most = lost;
        }
        return most;
    }

    private int firstUseful(Door door) {
        for (int place = 0; place < state.air.length; place++) {
            if (tryNumber(door, state.air.number(place)) == OPENS) {
                return place;
            }
        }
        return NONE;
    }

    private static long mixed(long hash, long value) {
        return 31L * hash + value;
    }

    private long mixedDoor(long start, Door door) {
        long hash = start;
        for (int what = 0; what < DOOR_LOOKS; what++) {
            hash = mixed(hash, door.look(what, state.settings));
        }
        for (Slot slot : door.slots) {
            for (int what = 0; what < SLOT_LOOKS; what++) {
                hash = mixed(hash, slot.look(what));
            }
        }
        hash = mixed(hash, firstUseful(door));
        for (Fob fob : state.fobs) {
            hash = mixed(hash, pressesToOpen(fob, door));
            hash = mixed(hash, mostUnheard(fob, door));
        }
        return hash;
    }

    // The language leaves no Double.doubleToLongBits: a share is 0 to 1, and
    // doubling one is exact, so that its exponent can be counted.
    private static long shareBits(double share) {
        if (share <= 0.0) {
            return 0L;
        }
        double fraction = share;
        long exponent = 1023L;
        while (fraction < 1.0 && exponent > 1L) {
            fraction = fraction * 2.0;
            exponent--;
        }
        return (exponent << 52) + (long) ((fraction - 1.0) * 4503599627370496.0);
    }

    private static final class Fob {
        int secret;
        int counter;
        int battery;
        int presses;

        Fob(int first) {
            secret = first;
            battery = 100;
        }

        void copyFrom(Fob other) {
            secret = other.secret;
            counter = other.counter;
            battery = other.battery;
            presses = other.presses;
        }

        int sendNext() {
            battery--;
            presses++;
            counter = counterBehind(counter);
            return numberOf(secret, counter);
        }

        int look(int what) {
            switch (what) {
                case 0: return secret;
                case 1: return counter;
                case 2: return battery;
                case 3: return numberOf(secret, counterBehind(counter));
                case 4: return presses;
                default: return NONE;
            }
        }
    }

    private static final class Slot {
        boolean learnt;
        int secret;
        int last;
        int noted;

        Slot() {
            secret = NONE;
            last = NONE;
            noted = NONE;
        }

        void copyFrom(Slot other) {
            learnt = other.learnt;
            secret = other.secret;
            last = other.last;
            noted = other.noted;
        }

        void learnFrom(Fob fob) {
            learnt = true;
            secret = fob.secret;
            last = fob.counter;
            noted = NONE;
        }

        void empty() {
            learnt = false;
            secret = NONE;
            last = NONE;
            noted = NONE;
        }

        /** How far behind the last counter the nearest one with this number is; 0 if there is none within most. */
        int stepsTo(int number, int most) {
            if (!learnt) {
                return 0;
            }
            int counter = last;
            for (int steps = 1; steps <= most; steps++) {
                counter = counterBehind(counter);
                if (numberOf(secret, counter) == number) {
                    return steps;
                }
            }
            return 0;
        }

        /** Takes the counter that is so many steps behind the last one; tells whether the door opens by it. */
        boolean take(int steps, int window) {
            int counter = (last + steps) % (MOST_COUNTER + 1);
            if (steps <= window || noted != NONE && counter == counterBehind(noted)) {
                last = counter;
                noted = NONE;
                return true;
            }
            noted = counter;
            return false;
        }

        int look(int what) {
            switch (what) {
                case 0: return learnt ? 1 : 0;
                case 1: return secret;
                case 2: return last;
                case 3: return noted;
                default: return NONE;
            }
        }
    }

    private static final class Door {
        final Slot[] slots;
        boolean open;
        int wrongInRow;
        int opened;
        int notes;
        int wrongs;
        int heardLocked;

        Door() {
            slots = new Slot[SLOTS];
            for (int slot = 0; slot < SLOTS; slot++) {
                slots[slot] = new Slot();
            }
        }

        void copyFrom(Door other) {
            for (int slot = 0; slot < SLOTS; slot++) {
                slots[slot].copyFrom(other.slots[slot]);
            }
            open = other.open;
            wrongInRow = other.wrongInRow;
            opened = other.opened;
            notes = other.notes;
            wrongs = other.wrongs;
            heardLocked = other.heardLocked;
        }

        boolean isLocked(Settings settings) {
            return settings.lock > 0 && wrongInRow >= settings.lock;
        }

        int learntSlots() {
            int learnt = 0;
            for (Slot slot : slots) {
                learnt += slot.look(0);
            }
            return learnt;
        }

        int hear(int number, Settings settings) {
            if (isLocked(settings)) {
                heardLocked++;
                return LOCKED;
            }
            for (Slot slot : slots) {
                int steps = slot.stepsTo(number, settings.wide);
                if (steps > 0 && slot.take(steps, settings.window)) {
                    open = true;
                    opened++;
                    wrongInRow = 0;
                    return OPENS;
                }
                if (steps > 0) {
                    notes++;
                    return NOTED;
                }
            }
            wrongInRow++;
            wrongs++;
            return WRONG;
        }

        int look(int what, Settings settings) {
            switch (what) {
                case 0: return open ? 1 : 0;
                case 1: return wrongInRow;
                case 2: return isLocked(settings) ? 1 : 0;
                case 3: return learntSlots();
                case 4: return opened;
                case 5: return notes;
                case 6: return wrongs;
                case 7: return heardLocked;
                default: return NONE;
            }
        }
    }

    private static final class Air {
        final int[] numbers;
        int length;

        Air() {
            numbers = new int[RECORDED];
        }

        void copyFrom(Air other) {
            System.arraycopy(other.numbers, 0, numbers, 0, RECORDED);
            length = other.length;
        }

        void record(int number) {
            System.arraycopy(numbers, 0, numbers, 1, RECORDED - 1);
            numbers[0] = number;
            length = Math.min(length + 1, RECORDED);
        }

        int number(int place) {
            return place >= 0 && place < length && place < RECORDED ? numbers[place] : NONE;
        }
    }

    private static final class Settings {
        int window;
        int wide;
        int lock;

        Settings() {
            window = 16;
            wide = 100;
            lock = 8;
        }

        static int least(int setting) {
            return setting == 2 ? 0 : 1;
        }

        static int most(int setting) {
            switch (setting) {
                case 0: return 64;
                case 1: return 500;
                default: return 20;
            }
        }

        void copyFrom(Settings other) {
            window = other.window;
            wide = other.wide;
            lock = other.lock;
        }

        int value(int setting) {
            switch (setting) {
                case 0: return window;
                case 1: return wide;
                default: return lock;
            }
        }

        void change(int setting, int value) {
            switch (setting) {
                case 0: window = value; break;
                case 1: wide = value; break;
                default: lock = value; break;
            }
        }
    }

    /** All that undo restores. */
    private static final class State {
        final Fob[] fobs;
        final Door[] doors;
        final Air air;
        final Settings settings;
        int sentAgain;
        int openedAgain;

        State() {
            fobs = new Fob[FOBS];
            for (int fob = 0; fob < FOBS; fob++) {
                fobs[fob] = new Fob(fob);
            }
            doors = new Door[DOORS];
            for (int door = 0; door < DOORS; door++) {
                doors[door] = new Door();
            }
            air = new Air();
            settings = new Settings();
        }

        void copyFrom(State other) {
            for (int fob = 0; fob < FOBS; fob++) {
                fobs[fob].copyFrom(other.fobs[fob]);
            }
            for (int door = 0; door < DOORS; door++) {
                doors[door].copyFrom(other.doors[door]);
            }
            air.copyFrom(other.air);
            settings.copyFrom(other.settings);
            sentAgain = other.sentAgain;
            openedAgain = other.openedAgain;
        }

        boolean canPress(int fob) {
            return fob >= 0 && fob < FOBS && fobs[fob].battery > 0;
        }

        boolean canSendAgain(int place) {
            return place >= 0 && place < air.length;
        }

        int pressFob(int fob, int mask) {
            if (!canPress(fob)) {
                return 0;
            }
            int number = fobs[fob].sendNext();
            air.record(number);
            return send(number, mask);
        }

        int sendAgain(int place, int mask) {
            if (!canSendAgain(place)) {
                return 0;
            }
            sentAgain++;
            int opened = send(air.number(place), mask);
            openedAgain += Integer.bitCount(opened);
            return opened;
        }

        private int send(int number, int mask) {
            int opened = 0;
            for (int door = 0; door < DOORS; door++) {
                boolean hears = (mask >> door & 1) == 1;
                if (hears && doors[door].hear(number, settings) == OPENS) {
                    opened |= 1 << door;
                }
            }
            return opened;
        }

        boolean shutDoor(int door) {
            if (door < 0 || door >= DOORS) {
                return false;
            }
            doors[door].open = false;
            return true;
        }

        int presses() {
            int presses = 0;
            for (Fob fob : fobs) {
                presses += fob.presses;
            }
            return presses;
        }

        int timesOpened() {
            int opened = 0;
            for (Door door : doors) {
                opened += door.opened;
            }
            return opened;
        }

        int wrongNumbers() {
            int wrongs = 0;
            for (Door door : doors) {
                wrongs += door.wrongs;
            }
            return wrongs;
        }

        int openDoors() {
            int open = 0;
            for (Door door : doors) {
                open += door.open ? 1 : 0;
            }
            return open;
        }

        int lockedDoors() {
            int locked = 0;
            for (Door door : doors) {
                locked += door.isLocked(settings) ? 1 : 0;
            }
            return locked;
        }
    }

    /** The saved states, in a ring: the oldest one gives its place to the newest. */
    private static final class History {
        private final State[] saved;
        private int next;
        int length;

        History() {
            saved = new State[SAVED];
            for (int place = 0; place < SAVED; place++) {
                saved[place] = new State();
            }
        }

        void keep(State state) {
            saved[Math.floorMod(next, SAVED)].copyFrom(state);
            next++;
            length = Math.min(length + 1, SAVED);
        }

        void restore(State state) {
            if (length <= 0) {
                return;
            }
            next--;
            length--;
            state.copyFrom(saved[Math.floorMod(next, SAVED)]);
        }
    }

    /** The buffer, and how presses are written in it. */
    private static final class Text {
        // What may stand next: a part, the fob, place or door of one, a set.
        private static final int PART = 0;
        private static final int FOB = 1;
        private static final int PLACE = 2;
        private static final int DOOR = 3;
        private static final int SET = 4;
        // Behind the digit d of a set, SET_DIGIT + d; a greater digit or ";"
        // may stand next. Behind digit 2 that is ";" alone, as at any END.
        private static final int SET_DIGIT = 5;
        private static final int END = 7;
        private static final int ERROR = 8;

        private final int[] codes;
        int length;

        Text() {
            codes = new int[BUFFER];
        }

        void add(int code) {
            if (length >= 0 && length < BUFFER) {
                codes[length] = code;
                length++;
            }
        }

        int code(int at) {
            return at >= 0 && at < length && at < BUFFER ? codes[at] : NONE;
        }

        int digit(int at) {
            int code = code(at);
            return code >= '0' && code <= '9' ? code - '0' : NONE;
        }

        int goodLength() {
            int expected = PART;
            for (int at = 0; at < length; at++) {
                expected = expectedBehind(expected, code(at));
                if (expected == ERROR) {
                    return at;
                }
            }
            return length;
        }

        boolean isComplete() {
            int expected = PART;
            for (int at = 0; at < length; at++) {
                expected = expectedBehind(expected, code(at));
            }
            return expected >= SET_DIGIT && expected <= END;
        }

        boolean endsPart(int at) {
            return at == length || code(at) == ';';
        }

        /** The doors that the set of a part names. */
        int mask(int start, int end) {
            int mask = 0;
            for (int at = start; at < end; at++) {
                int door = digit(at);
                if (door >= 0 && door < DOORS) {
                    mask |= 1 << door;
                }
            }
            return mask;
        }

        private static int expectedBehind(int expected, int code) {
            switch (expected) {
                case PART: return expectedInPart(code);
                case FOB: return code >= '0' && code <= '3' ? SET : ERROR;
                case PLACE: return code >= '0' && code <= '7' ? SET : ERROR;
                case DOOR: return code >= '0' && code <= '2' ? END : ERROR;
                case SET: return code == '-' ? END : expectedInSet(code, 0);
                case ERROR: return ERROR;
                default: return code == ';' ? PART : expectedInSet(code, expected - SET_DIGIT + 1);
            }
        }

        private static int expectedInPart(int code) {
            switch (code) {
                case 'f': return FOB;
                case 'r': return PLACE;
                case 'c': return DOOR;
                default: return ERROR;
            }
        }

        private static int expectedInSet(int code, int least) {
            int digit = code - '0';
            return digit >= least && digit < DOORS ? SET_DIGIT + digit : ERROR;
        }
    }
}
