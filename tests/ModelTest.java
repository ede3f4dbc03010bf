import java.util.Arrays;
import java.util.HashMap;
import java.util.Map;
import java.util.function.LongSupplier;

/** Promises 1 to 27: long runs of calls, each answered by the program and by the model of the document. */
public final class ModelTest {
    private static final int RUNS = 400;
    private static final int CALLS = 512;
    private static final String[] NAMES = {"make", "battery", "press", "again", "learn", "forget", "shut", "unlock",
        "set", "append", "clearBuffer", "firstError", "play", "undo", "fob", "slot", "door", "air", "count", "setting",
        "ifHeard", "opensIn", "unheard", "useful", "openShare", "digest"};
    // How often each of them is called, in the same order; text() has a call of its own.
    private static final int[] WEIGHTS = {30, 6, 120, 40, 25, 4, 6, 5,
        6, 2, 1, 2, 2, 12, 6, 20, 20, 6, 12, 5,
        20, 14, 14, 8, 3, 4};
    private static final String[] PARTS = {"f00", "f012", "f1-", "f2012", "f3012", "f01", "r0012", "r50", "r712", "c0",
        "c2", "f002", "f0021", "f4", "x", "", "f0", "r", "c1"};

    private static final Check check = new Check("ModelTest");
    private static final Map<String, Integer> answers = new HashMap<>();
    private static long seed;

    private static RollingFob x;
    private static Model m;

    public static void main(String[] args) {
        for (int run = 1; run <= RUNS; run++) {
            seed = run * 7907L;
            x = new RollingFob();
            m = new Model();
            run(run);
        }
        for (String name : NAMES) {
            check.holds(name + " has answered", answers.getOrDefault(name + " answers", 0) > 100);
        }
        String[] throwing = {"make", "battery", "press", "again", "learn", "forget", "shut", "unlock", "set", "append",
            "play", "undo", "fob", "slot", "door", "air", "count", "setting", "ifHeard", "opensIn", "unheard", "useful"};
        for (String name : throwing) {
            check.holds(name + " has thrown", answers.getOrDefault(name + " throws", 0) > 10);
        }
        for (int what = 0; what < 4; what++) {
            check.holds("ifHeard has answered " + what, answers.getOrDefault("ifHeard " + what, 0) > 30);
        }
        check.end();
    }

    /** Numbers that look random, and are the same in each run of the test. */
    private static int roll(int bound) {
        seed = seed * 6364136223846793005L + 1442695040888963407L;
        return (int) ((seed >>> 33) % bound);
    }

    /** Mostly 0 to most, at times a wrong one. */
    private static int arg(int most) {
        int odd = roll(160);
        if (odd == 0) {
            return -1;
        }
        if (odd == 1) {
            return most + 1;
        }
        if (odd == 2) {
            return roll(2) == 0 ? Integer.MIN_VALUE : Integer.MAX_VALUE;
        }
        return roll(most + 1);
    }

    private static void run(int run) {
        int calls = 0;
        if (run % 4 == 0) {
            calls += twice("set", () -> x.set(2, 0), () -> m.set(2, 0));
        }
        if (run % 3 == 0) {
            int wide = 1 + roll(500);
            calls += twice("set", () -> x.set(1, wide), () -> m.set(1, wide));
        }
        int total = Arrays.stream(WEIGHTS).sum() + 8;
        while (calls < CALLS - 70) {
            int at = roll(total);
            int kind = 0;
            while (kind < WEIGHTS.length && at >= WEIGHTS[kind]) {
                at -= WEIGHTS[kind];
                kind++;
            }
            calls += kind == WEIGHTS.length ? text() : call(NAMES[kind]);
        }
        twice("digest", x::digest, m::digest);
    }

    private static int twice(String name, LongSupplier got, LongSupplier due) {
        String dueText = told(due);
        String gotText = told(got);
        answers.merge(name + (dueText.startsWith("throws.") ? " throws" : " answers"), 1, Integer::sum);
        answers.merge(name + " " + dueText, 1, Integer::sum);
        check.holds(name + " answered " + gotText + ", due is " + dueText, gotText.equals(dueText));
        return 1;
    }

    private static String told(LongSupplier call) {
        try {
            return "" + call.getAsLong();
        } catch (RuntimeException e) {
            return "throws." + e.getClass().getSimpleName();
        }
    }

    private static int text() {
        StringBuilder text = new StringBuilder();
        int parts = 1 + roll(roll(6) == 0 ? 20 : 4);
        for (int part = 0; part < parts; part++) {
            text.append(part == 0 ? "" : ";").append(PARTS[roll(roll(4) == 0 ? PARTS.length : 12)]);
        }
        int calls = twice("clearBuffer", x::clearBuffer, m::clearBuffer);
        int length = Math.min(61, text.length());
        for (int i = 0; i < length; i++) {
            char c = text.charAt(i);
            calls += twice("append", () -> x.append(c), () -> m.append(c));
        }
        calls += twice("firstError", x::firstError, m::firstError);
        return calls + twice("play", x::play, m::play);
    }

    /** A counter near one that a slot knows, or anywhere, with a liking for the edges. */
    private static int counter() {
        int near = m.slot(roll(3), roll(4), 2 + roll(2));
        int kind = roll(10);
        if (kind == 0) {
            return arg(9999);
        }
        if (kind == 1 || near < 0) {
            return (9999 - roll(70) + roll(70)) % 10000;
        }
        int[] far = {0, 1, 2, 15, 16, 17, 63, 64, 65, 99, 100, 101, 499, 500};
        int step = kind < 6 ? roll(40) - 8 : far[roll(far.length)] - roll(2);
        return Math.floorMod(near + step, 10000);
    }

    /** A secret of few, so that fobs and slots share them. */
    private static int secret() {
        int[] few = {0, 1, 2, 3, 9999, 31};
        return roll(12) == 0 ? arg(9999) : few[roll(few.length)];
    }

    private static int value(int setting) {
        int[] most = {64, 500, 20};
        int bound = setting >= 0 && setting < 3 ? most[setting] : 20;
        return roll(3) == 0 ? arg(bound) : 1 + roll(bound);
    }

    private static int number() {
        int place = m.air(roll(8));
        int kind = roll(20);
        if (kind == 0 || place < 0) {
            return arg(65535);
        }
        return kind < 12 ? m.fob(roll(4), 3) : place;
    }

    private static int call(String name) {
        int fob = arg(3);
        int door = arg(2);
        int slot = arg(3);
        int doors = arg(7);
        int setting = arg(2);
        switch (name) {
            case "make": {
                int secret = secret();
                int counter = counter();
                return twice(name, () -> x.make(fob, secret, counter), () -> m.make(fob, secret, counter));
            }
            case "battery": {
                int battery = roll(3) == 0 ? arg(999) : roll(60);
                return twice(name, () -> x.battery(fob, battery), () -> m.battery(fob, battery));
            }
            case "press": return twice(name, () -> x.press(fob, doors), () -> m.press(fob, doors));
            case "again": return twice(name, () -> x.again(arg7(fob), doors), () -> m.again(arg7(fob), doors));
            case "learn": return twice(name, () -> x.learn(door, slot, fob), () -> m.learn(door, slot, fob));
            case "forget": return twice(name, () -> x.forget(door, slot), () -> m.forget(door, slot));
            case "shut": return twice(name, () -> x.shut(door), () -> m.shut(door));
            case "unlock": return twice(name, () -> x.unlock(door), () -> m.unlock(door));
            case "set": {
                int value = value(setting);
                return twice(name, () -> x.set(setting, value), () -> m.set(setting, value));
            }
            case "append": {
                int code = 30 + roll(100);
                return twice(name, () -> x.append(code), () -> m.append(code));
            }
            case "clearBuffer": return twice(name, x::clearBuffer, m::clearBuffer);
            case "firstError": return twice(name, x::firstError, m::firstError);
            case "play": return twice(name, x::play, m::play);
            case "undo": {
                int calls = 0;
                for (int times = roll(roll(4) == 0 ? 8 : 2); times >= 0; times--) {
                    calls += twice(name, x::undo, m::undo);
                }
                return calls;
            }
            default: return look(name, fob, door, slot, setting);
        }
    }

    /** A place of the air out of a fob's number: wrong ones stay wrong. */
    private static int arg7(int fob) {
        return fob == 3 ? 7 : fob;
    }

    private static int look(String name, int fob, int door, int slot, int setting) {
        int what = arg(7);
        switch (name) {
            case "fob": return twice(name, () -> x.fob(fob, what), () -> m.fob(fob, what));
            case "slot": return twice(name, () -> x.slot(door, slot, what), () -> m.slot(door, slot, what));
            case "door": return twice(name, () -> x.door(door, what), () -> m.door(door, what));
            case "air": return twice(name, () -> x.air(what), () -> m.air(what));
            case "count": return twice(name, () -> x.count(what), () -> m.count(what));
            case "setting": return twice(name, () -> x.setting(setting), () -> m.setting(setting));
            case "ifHeard": {
                int number = number();
                return twice(name, () -> x.ifHeard(door, number), () -> m.ifHeard(door, number));
            }
            case "opensIn": return twice(name, () -> x.opensIn(fob, door), () -> m.opensIn(fob, door));
            case "unheard": return twice(name, () -> x.unheard(fob, door), () -> m.unheard(fob, door));
            case "useful": return twice(name, () -> x.useful(door), () -> m.useful(door));
            case "openShare":
                return twice(name, () -> Double.doubleToRawLongBits(x.openShare()),
                        () -> Double.doubleToRawLongBits(m.openShare()));
            default: return twice(name, x::digest, m::digest);
        }
    }
}
