import java.util.ArrayList;
import java.util.List;

/**
 * The section "Exceptions" and each row of "Throws": every call with each argument too small, at its least, at
 * its most and too large, in all their combinations. A call that is refused changes nothing, nor what undo comes
 * back to; one that is not refused answers.
 */
public final class RefusalsTest {
    private static final Check check = new Check("RefusalsTest");
    private static final String INDEX = "IndexOutOfBoundsException";
    private static final String ARGUMENT = "IllegalArgumentException";
    private static final String STATE = "IllegalStateException";
    private static final String NOTHING = "an answer";
    // An object is used for at most 512 calls.
    private static final int REFUSALS = 150;

    /** A call with up to three arguments. */
    private interface Call {
        double of(RollingFob x, int a, int b, int c);
    }

    /** What an argument may be, what is thrown if it is not, and the values that are tried. */
    private static final class Range {
        final int least;
        final int most;
        final String thrown;
        final int[] tried;

        Range(int least, int most, String thrown) {
            this(least, most, thrown, least, most);
        }

        Range(int least, int most, String thrown, int firstTried, int lastTried) {
            this.least = least;
            this.most = most;
            this.thrown = thrown;
            tried = new int[] {Integer.MIN_VALUE, least - 65536, least - 1, firstTried, lastTried, most + 1,
                most + 65536, Integer.MAX_VALUE};
        }

        boolean holds(int value) {
            return value >= least && value <= most;
        }
    }

    private static final Range FOB = index(0, 3);
    private static final Range DOOR = index(0, 2);
    private static final Range SLOT = index(0, 3);
    private static final Range MASK = argument(0, 7);
    // Three numbers are in the air of a prepared object.
    private static final Range PLACE = index(0, 2);

    public static void main(String[] args) {
        undoable();
        set();
        looks();
        whatWouldBe();
        emptyBattery();
        nothingRecorded();
        allRecorded();
        fullBuffer();
        nothingSaved();
        incompleteText();
        neverRefused();
        check.end();
    }

    private static Range index(int least, int most) {
        return new Range(least, most, INDEX);
    }

    private static Range argument(int least, int most) {
        return new Range(least, most, ARGUMENT);
    }

    /** Six states saved, three numbers in the air, one noted, wrong ones in a row, a locked door, a text begun. */
    private static RollingFob prepared() {
        RollingFob x = new RollingFob();
        x.learn(0, 0, 0);
        x.press(0, 7);
        x.make(0, 0, 49);
        x.press(0, 1);
        x.set(2, 2);
        x.press(1, 6);
        x.battery(3, 7);
        Check.write(x, "f0");
        return x;
    }

    private static void undoable() {
        ranges("make", (x, a, b, c) -> x.make(a, b, c), FOB, argument(0, 9999), argument(0, 9999));
        ranges("battery", (x, a, b, c) -> x.battery(a, b), FOB, argument(0, 999));
        ranges("press", (x, a, b, c) -> x.press(a, b), FOB, MASK);
        ranges("again", (x, a, b, c) -> x.again(a, b), PLACE, MASK);
        ranges("learn", (x, a, b, c) -> x.learn(a, b, c), DOOR, SLOT, FOB);
        ranges("forget", (x, a, b, c) -> x.forget(a, b), DOOR, SLOT);
        ranges("shut", (x, a, b, c) -> x.shut(a), DOOR);
        ranges("unlock", (x, a, b, c) -> x.unlock(a), DOOR);
        ranges("append", (x, a, b, c) -> x.append(a), argument(33, 126));
    }

    /** The values of a setting are its own. */
    private static void set() {
        Range[] values = {argument(1, 64), argument(1, 500), argument(0, 20)};
        for (int setting = 0; setting < 3; setting++) {
            Range one = new Range(0, 2, INDEX, setting, setting);
            ranges("set", (x, a, b, c) -> x.set(a, b), one, values[setting]);
        }
    }

    private static void looks() {
        ranges("fob", (x, a, b, c) -> x.fob(a, b), FOB, argument(0, 4));
        ranges("slot", (x, a, b, c) -> x.slot(a, b, c), DOOR, SLOT, argument(0, 3));
        ranges("door", (x, a, b, c) -> x.door(a, b), DOOR, argument(0, 7));
        ranges("air", (x, a, b, c) -> x.air(a), argument(0, Integer.MAX_VALUE));
        ranges("count", (x, a, b, c) -> x.count(a), argument(0, 7));
        ranges("setting", (x, a, b, c) -> x.setting(a), index(0, 2));
    }

    private static void whatWouldBe() {
        ranges("ifHeard", (x, a, b, c) -> x.ifHeard(a, b), DOOR, argument(0, 65535));
        ranges("opensIn", (x, a, b, c) -> x.opensIn(a, b), FOB, DOOR);
        ranges("unheard", (x, a, b, c) -> x.unheard(a, b), FOB, DOOR);
        ranges("useful", (x, a, b, c) -> x.useful(a), DOOR);
    }

    /** Tries the values of each range with those of each other one. */
    private static void ranges(String name, Call call, Range... ranges) {
        int total = 1;
        for (Range range : ranges) {
            total *= range.tried.length;
        }
        List<int[]> refused = new ArrayList<>();
        for (int at = 0; at < total; at++) {
            int[] values = new int[3];
            int rest = at;
            for (int i = 0; i < ranges.length; i++) {
                values[i] = ranges[i].tried[rest % ranges[i].tried.length];
                rest /= ranges[i].tried.length;
            }
            if (due(ranges, values).equals(NOTHING)) {
                check.holds(told(name, values) + " answers", thrown(call, prepared(), values).equals(NOTHING));
            } else {
                refused.add(values);
            }
        }
        refusals(name, call, ranges, refused);
    }

    /** "If several exceptions apply, the one that is named first in the throws clause is thrown." */
    private static String due(Range[] ranges, int[] values) {
        String due = NOTHING;
        for (int i = 0; i < ranges.length; i++) {
            boolean first = due.equals(NOTHING) || ranges[i].thrown.equals(INDEX);
            if (!ranges[i].holds(values[i]) && first) {
                due = ranges[i].thrown;
            }
        }
        return due;
    }

    /** "A call that throws an exception changes nothing." */
    private static void refusals(String name, Call call, Range[] ranges, List<int[]> refused) {
        check.holds(name + " is refused at times", !refused.isEmpty());
        for (int from = 0; from < refused.size(); from += REFUSALS) {
            RollingFob x = prepared();
            long before = x.digest();
            for (int[] values : refused.subList(from, Math.min(from + REFUSALS, refused.size()))) {
                String got = thrown(call, x, values);
                String due = due(ranges, values);
                check.holds(told(name, values) + ": " + got + ", due is " + due, got.equals(due));
                check.same(told(name, values) + " leaves the digest", x.digest(), before);
            }
            undone(name, x);
        }
    }

    /** What was saved ahead of refused calls is what a prepared object has saved. */
    private static void undone(String name, RollingFob x) {
        RollingFob due = prepared();
        while (due.count(7) > 0) {
            check.same(name + " refused, undo", x.undo(), due.undo());
            check.same(name + " refused, what undo comes back to", x.digest(), due.digest());
        }
        check.state(name + " refused, no more is saved", x, x::undo);
    }

    private static String told(String name, int[] values) {
        return name + "(" + values[0] + ", " + values[1] + ", " + values[2] + ")";
    }

    private static String thrown(Call call, RollingFob x, int[] values) {
        try {
            call.of(x, values[0], values[1], values[2]);
        } catch (RuntimeException e) {
            return e.getClass().getSimpleName();
        }
        return NOTHING;
    }

    /** press "if its battery is 0": behind the two that are named ahead of it. */
    private static void emptyBattery() {
        Range[] ranges = {FOB, MASK};
        RollingFob x = prepared();
        for (int fob = 0; fob < 4; fob++) {
            x.battery(fob, 0);
        }
        long before = x.digest();
        for (int fob : FOB.tried) {
            for (int doors : MASK.tried) {
                int[] values = {fob, doors, 0};
                String due = due(ranges, values).equals(NOTHING) ? STATE : due(ranges, values);
                String got = thrown((y, a, b, c) -> y.press(a, b), x, values);
                check.holds("battery 0, " + told("press", values) + ": " + got, got.equals(due));
                check.same("battery 0, the digest", x.digest(), before);
            }
        }
        check.same("saved states", x.undo(), 5);
        check.same("the last battery", x.fob(3, 2), 7);
    }

    /** again "if there is no such number": none at all. */
    private static void nothingRecorded() {
        RollingFob x = new RollingFob();
        for (int place : new int[] {Integer.MIN_VALUE, -1, 0, 1, 7, 8, Integer.MAX_VALUE}) {
            check.index("again of " + place, x, () -> x.again(place, 0));
            check.index("again of " + place + " for no such doors", x, () -> x.again(place, 8));
        }
        check.same("nothing is sent again", x.count(1), 0);
    }

    /** again "0 to 7": 7 is there when 8 are recorded, 8 never. */
    private static void allRecorded() {
        RollingFob x = new RollingFob();
        for (int recorded = 1; recorded <= 10; recorded++) {
            x.press(0, 0);
            int last = Math.min(recorded, 8) - 1;
            check.same("again of the oldest", x.again(last, 0), 0);
            check.index("again of the one behind", x, () -> x.again(last + 1, 0));
        }
        check.same("sent again", x.count(1), 10);
    }

    /** append "if the buffer has 60 characters": behind a code that is out of range. */
    private static void fullBuffer() {
        RollingFob x = new RollingFob();
        for (int length = 1; length <= 60; length++) {
            check.same("append", x.append('c'), length);
        }
        check.state("the 61st", x, () -> x.append('c'));
        check.state("the 61st, the least code", x, () -> x.append(33));
        check.state("the 61st, the greatest code", x, () -> x.append(126));
        check.argument("code 32", x, () -> x.append(32));
        check.argument("code 127", x, () -> x.append(127));
        check.same("the length stays", x.clearBuffer(), 60);
    }

    /** undo "if there is none": at first, and behind as many as were saved. */
    private static void nothingSaved() {
        RollingFob x = new RollingFob();
        check.state("at first", x, () -> x.undo());
        for (int saved = 1; saved <= 7; saved++) {
            for (int i = 0; i < saved; i++) {
                x.unlock(0);
            }
            for (int left = Math.min(saved, 6) - 1; left >= 0; left--) {
                check.same("undo", x.undo(), left);
            }
            check.state("behind " + saved, x, () -> x.undo());
        }
    }

    /** play "if the buffer is not complete presses as a text": empty, begun, or with an error. */
    private static void incompleteText() {
        RollingFob x = prepared();
        long before = x.digest();
        String[] texts = {"", "f", "f0", "r", "r7", "c", "c0;", "f0-;", "f0-;r", "f0-;r0", ";", "f4-", "r8-", "c3",
            "f0-f", "f00-", "f0-0", "f010", "f0;"};
        for (String text : texts) {
            Check.write(x, text);
            check.argument("play of \"" + text + "\"", x, () -> x.play());
            check.same("the buffer stays", x.clearBuffer(), text.length());
        }
        Check.write(x, "f0");
        check.same("all is as it was", x.digest(), before);
        undone("play", x);
    }

    /** What has no throws clause is never refused. */
    private static void neverRefused() {
        RollingFob[] objects = {new RollingFob(), prepared()};
        for (RollingFob x : objects) {
            int length = x.firstError();
            x.openShare();
            x.digest();
            check.same("the length that it had", x.clearBuffer(), length);
            check.same("cleared", x.clearBuffer(), 0);
        }
    }
}
