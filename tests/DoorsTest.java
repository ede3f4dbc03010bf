/** How doors hear, and promises 6 (learn), 7 (forget), 8 (shut), 9 (unlock), 17 (slot), 18 (door). */
public final class DoorsTest {
    private static final Check check = new Check("DoorsTest");

    public static void main(String[] args) {
        window();
        catchUp();
        notedIsReplaced();
        counterZeroIsNotBehindNone();
        widerWindow();
        widerLessThanWindow();
        behind9999();
        twoOfOneSecret();
        firstSlotIsMeant();
        nearestIsMeant();
        lock();
        learn();
        forget();
        shut();
        unlock();
        slotWrong();
        doorWrong();
        check.end();
    }

    /** A new object whose door 0 has learnt fob 0, of that secret and counter, in slot 0. */
    private static RollingFob learnt(int secret, int counter) {
        RollingFob x = new RollingFob();
        x.make(0, secret, counter);
        x.learn(0, 0, 0);
        return x;
    }

    /** Lets the fob 0 send the number of that counter. */
    private static int pressAt(RollingFob x, int counter, int doors) {
        x.make(0, x.fob(0, 0), (counter + 9999) % 10000);
        return x.press(0, doors);
    }

    private static void window() {
        RollingFob x = learnt(0, 100);
        check.same("16 behind opens", pressAt(x, 116, 1), 1);
        check.same("last", x.slot(0, 0, 2), 116);
        check.same("17 behind does not", pressAt(x, 133, 1), 0);
        check.same("it is noted", x.slot(0, 0, 3), 133);
        check.same("last stays", x.slot(0, 0, 2), 116);
        check.same("one that is noted", x.door(0, 5), 1);
        check.same("no wrong number", x.door(0, 6), 0);
        check.same("1 behind opens", pressAt(x, 117, 1), 1);
        check.same("nothing is noted then", x.slot(0, 0, 3), -1);
        check.same("the same does not", pressAt(x, 117, 1), 0);
        check.same("an older one does not", pressAt(x, 110, 1), 0);
        check.same("these are wrong numbers", x.door(0, 6), 2);
        check.same("in a row", x.door(0, 1), 2);
        pressAt(x, 150, 1);
        check.same("a noted one leaves the row", x.door(0, 1), 2);
        check.same("one in the window opens", pressAt(x, 118, 1), 1);
        check.same("no wrong numbers in a row", x.door(0, 1), 0);
        check.same("wrong numbers so far", x.door(0, 6), 2);
        check.same("opened", x.door(0, 4), 3);
    }

    private static void catchUp() {
        RollingFob x = learnt(0, 0);
        check.same("the first is noted", pressAt(x, 50, 1), 0);
        pressAt(x, 9000, 1);
        check.same("a wrong number between leaves it", x.slot(0, 0, 3), 50);
        check.same("the one behind it opens", pressAt(x, 51, 1), 1);
        check.same("last", x.slot(0, 0, 2), 51);
        check.same("nothing is noted", x.slot(0, 0, 3), -1);
        check.same("no wrong numbers in a row", x.door(0, 1), 0);
        check.same("the door is open", x.door(0, 0), 1);
        check.same("the first is noted", pressAt(x, 100, 1), 0);
        check.same("the same is noted", pressAt(x, 100, 1), 0);
        check.same("it stays", x.slot(0, 0, 3), 100);
        check.same("one ahead of it is noted", pressAt(x, 99, 1), 0);
        check.same("in its place", x.slot(0, 0, 3), 99);
        check.same("two behind it is noted", pressAt(x, 101, 1), 0);
        check.same("in its place", x.slot(0, 0, 3), 101);
        check.same("how often", x.door(0, 5), 5);
        check.same("the one behind it opens", pressAt(x, 102, 1), 1);
    }

    private static void notedIsReplaced() {
        RollingFob x = learnt(0, 0);
        pressAt(x, 30, 1);
        pressAt(x, 60, 1);
        check.same("the one behind a dropped one is noted", pressAt(x, 31, 1), 0);
        check.same("noted", x.slot(0, 0, 3), 31);
        x.learn(0, 0, 0);
        check.same("learning drops what is noted", x.slot(0, 0, 3), -1);
        x.shut(0);
        pressAt(x, 70, 1);
        x.forget(0, 0);
        check.same("forgetting does, too", x.slot(0, 0, 3), -1);
    }

    private static void counterZeroIsNotBehindNone() {
        RollingFob x = learnt(5, 9950);
        check.same("counter 0 without a noted one", pressAt(x, 0, 1), 0);
        check.same("noted", x.slot(0, 0, 3), 0);
        check.same("counter 9999", pressAt(x, 9999, 1), 0);
        check.same("counter 0 behind 9999", pressAt(x, 0, 1), 1);
        check.same("last", x.slot(0, 0, 2), 0);
    }

    private static void widerWindow() {
        RollingFob x = learnt(0, 0);
        check.same("100 behind is noted", pressAt(x, 100, 1), 0);
        check.same("noted", x.slot(0, 0, 3), 100);
        check.same("101 behind is wrong, also behind the noted one", pressAt(x, 101, 1), 0);
        check.same("noted stays", x.slot(0, 0, 3), 100);
        check.same("a wrong number", x.door(0, 6), 1);
        x.set(1, 500);
        check.same("500 behind is noted", pressAt(x, 500, 1), 0);
        check.same("noted", x.slot(0, 0, 3), 500);
        check.same("501 behind is wrong", pressAt(x, 501, 1), 0);
        check.same("wrong numbers", x.door(0, 6), 2);
        x.set(0, 64);
        check.same("65 behind is noted", pressAt(x, 65, 1), 0);
        check.same("64 behind opens", pressAt(x, 64, 1), 1);
        check.same("noted so far", x.door(0, 5), 3);
    }

    private static void widerLessThanWindow() {
        RollingFob x = learnt(0, 0);
        x.set(1, 3);
        check.same("4 behind is wrong", pressAt(x, 4, 1), 0);
        check.same("a wrong number", x.door(0, 6), 1);
        check.same("3 behind opens", pressAt(x, 3, 1), 1);
        x.set(0, 1);
        x.set(1, 1);
        check.same("2 behind is wrong", pressAt(x, 5, 1), 0);
        check.same("1 behind opens", pressAt(x, 4, 1), 1);
        check.same("nothing was noted", x.door(0, 5), 0);
    }

    private static void behind9999() {
        RollingFob x = learnt(9999, 9990);
        check.same("behind 9999, in the window", pressAt(x, 6, 1), 1);
        check.same("last", x.slot(0, 0, 2), 6);
        RollingFob y = learnt(9999, 9990);
        check.same("behind 9999, out of the window", pressAt(y, 7, 1), 0);
        check.same("noted", y.slot(0, 0, 3), 7);
        check.same("9999 itself", pressAt(y, 9999, 1), 1);
        check.same("0 behind it", pressAt(y, 0, 1), 1);
        check.same("9999 is too old then", pressAt(y, 9999, 1), 0);
        check.same("a wrong number", y.door(0, 6), 1);
    }

    private static void twoOfOneSecret() {
        RollingFob x = learnt(42, 10);
        x.make(1, 42, 10);
        check.same("two of one secret learnt", x.learn(0, 1, 1), 2);
        check.same("the first slot is meant", pressAt(x, 11, 1), 1);
        check.same("slot 0", x.slot(0, 0, 2), 11);
        check.same("slot 1", x.slot(0, 1, 2), 10);
        check.same("then the second", x.press(1, 1), 1);
        check.same("slot 0", x.slot(0, 0, 2), 11);
        check.same("slot 1", x.slot(0, 1, 2), 11);
        check.same("the first one again", x.press(1, 1), 1);
        check.same("slot 0", x.slot(0, 0, 2), 12);
        check.same("slot 1", x.slot(0, 1, 2), 11);
        x.forget(0, 0);
        check.same("one that is not learnt is not meant", pressAt(x, 13, 1), 1);
        check.same("slot 1", x.slot(0, 1, 2), 13);
    }

    /** A far counter of slot 0 is meant rather than a near one of slot 1. */
    private static void firstSlotIsMeant() {
        RollingFob x = learnt(42, 10);
        x.make(1, 42, 40);
        x.learn(0, 3, 1);
        check.same("not the nearer one of slot 3", x.press(1, 1), 0);
        check.same("slot 0 notes it", x.slot(0, 0, 3), 41);
        check.same("slot 3 does not", x.slot(0, 3, 3), -1);
        check.same("slot 0 opens", x.press(1, 1), 1);
        check.same("slot 0", x.slot(0, 0, 2), 42);
        check.same("slot 3", x.slot(0, 3, 2), 40);
    }

    /** Two counters of one secret with the same number: the nearer one is meant. */
    private static void nearestIsMeant() {
        check.same("two of one number", Check.number(0, 2052), Check.number(0, 2044));
        RollingFob x = learnt(0, 2040);
        check.same("the further one is sent", pressAt(x, 2052, 1), 1);
        check.same("the nearer one is meant", x.slot(0, 0, 2), 2044);
        check.same("it is sent again", x.again(0, 1), 1);
        check.same("then the further one is meant", x.slot(0, 0, 2), 2052);
        check.same("and then none", x.again(0, 1), 0);
        RollingFob y = learnt(0, 2040);
        y.set(0, 3);
        check.same("both beyond the window", pressAt(y, 2052, 1), 0);
        check.same("the nearer one is noted", y.slot(0, 0, 3), 2044);
    }

    private static void lock() {
        RollingFob x = learnt(0, 0);
        x.set(2, 3);
        x.press(1, 1);
        x.press(1, 1);
        check.same("2 wrong ones do not lock", x.door(0, 2), 0);
        x.press(1, 1);
        check.same("3 wrong ones lock", x.door(0, 2), 1);
        check.same("the right one is not looked for", x.press(0, 1), 0);
        check.same("a wrong one neither", x.press(1, 1), 0);
        check.same("in a row", x.door(0, 1), 3);
        check.same("wrong numbers", x.door(0, 6), 3);
        check.same("heard while locked", x.door(0, 7), 2);
        check.same("last stays", x.slot(0, 0, 2), 0);
        x.set(2, 4);
        check.same("a higher setting unlocks", x.door(0, 2), 0);
        x.set(2, 0);
        check.same("setting 0 never locks", x.door(0, 2), 0);
        x.set(2, 1);
        check.same("a lower one locks", x.door(0, 2), 1);
        x.shut(0);
        x.learn(0, 1, 1);
        check.same("shutting and learning leave it", x.door(0, 2), 1);
        x.unlock(0);
        check.same("unlocked", x.door(0, 2), 0);
        check.same("the right one opens", x.press(0, 1), 1);
        check.same("other doors", x.door(1, 1) + x.door(2, 1) + x.door(1, 7), 0);
    }

    private static void learn() {
        RollingFob x = new RollingFob();
        x.make(2, 888, 77);
        check.same("learn", x.learn(1, 3, 2), 1);
        check.same("learnt", x.slot(1, 3, 0), 1);
        check.same("secret", x.slot(1, 3, 1), 888);
        check.same("last", x.slot(1, 3, 2), 77);
        check.same("noted", x.slot(1, 3, 3), -1);
        check.same("in place of what is there", x.learn(1, 3, 1), 1);
        check.same("secret", x.slot(1, 3, 1), 1);
        check.same("last", x.slot(1, 3, 2), 0);
        check.same("learn", x.learn(1, 0, 2), 2);
        check.same("learn", x.learn(1, 1, 2), 3);
        check.same("learn", x.learn(1, 2, 2), 4);
        check.same("slots learnt", x.door(1, 3), 4);
        check.same("other doors", x.door(0, 3) + x.door(2, 3), 0);
        check.same("each is saved", x.count(7), 6);
        check.index("door -1", x, () -> x.learn(-1, 0, 0));
        check.index("door 3", x, () -> x.learn(3, 0, 0));
        check.index("slot -1", x, () -> x.learn(0, -1, 0));
        check.index("slot 4", x, () -> x.learn(2, 4, 0));
        check.index("fob -1", x, () -> x.learn(0, 0, -1));
        check.index("fob 4", x, () -> x.learn(2, 3, 4));
    }

    private static void forget() {
        RollingFob x = new RollingFob();
        check.same("forget an empty one", x.forget(2, 0), 0);
        check.same("that is saved, too", x.count(7), 1);
        x.learn(2, 0, 0);
        x.learn(2, 1, 1);
        check.same("forget", x.forget(2, 0), 1);
        check.same("forget again", x.forget(2, 0), 0);
        check.same("slots learnt", x.door(2, 3), 1);
        for (int what = 1; what < 4; what++) {
            check.same("nothing of it", x.slot(2, 0, what), -1);
        }
        check.same("its number is wrong", x.press(0, 4), 0);
        check.same("wrong number", x.door(2, 6), 1);
        check.same("the other slot's is not", x.press(1, 4), 4);
        check.index("door -1", x, () -> x.forget(-1, 0));
        check.index("door 3", x, () -> x.forget(3, 0));
        check.index("slot -1", x, () -> x.forget(0, -1));
        check.index("slot 4", x, () -> x.forget(2, 4));
    }

    private static void shut() {
        RollingFob x = learnt(0, 0);
        check.same("shut a shut one", x.shut(0), 0);
        check.same("that is saved, too", x.count(7), 3);
        x.press(0, 1);
        check.same("an open one stays open", x.press(1, 1), 0);
        check.same("open", x.door(0, 0), 1);
        check.same("shut an open one", x.shut(0), 1);
        check.same("shut", x.door(0, 0), 0);
        check.same("shut again", x.shut(0), 0);
        check.same("wrong numbers stay", x.door(0, 1), 1);
        check.same("how often it opened", x.door(0, 4), 1);
        check.same("it opens again", x.press(0, 1), 1);
        check.index("door -1", x, () -> x.shut(-1));
        check.index("door 3", x, () -> x.shut(3));
    }

    private static void unlock() {
        RollingFob x = learnt(0, 0);
        check.same("none in a row", x.unlock(0), 0);
        check.same("that is saved, too", x.count(7), 3);
        x.press(1, 3);
        x.press(1, 1);
        check.same("two in a row", x.unlock(0), 2);
        check.same("none in a row", x.door(0, 1), 0);
        check.same("wrong numbers so far stay", x.door(0, 6), 2);
        check.same("the other door's stay", x.door(1, 1), 1);
        check.same("it stays shut", x.door(0, 0), 0);
        check.same("the other door's", x.unlock(1), 1);
        check.index("door -1", x, () -> x.unlock(-1));
        check.index("door 3", x, () -> x.unlock(3));
    }

    private static void slotWrong() {
        RollingFob x = learnt(0, 0);
        check.index("door -1", x, () -> x.slot(-1, 0, 0));
        check.index("door 3", x, () -> x.slot(3, 0, 0));
        check.index("slot -1", x, () -> x.slot(0, -1, 0));
        check.index("slot 4", x, () -> x.slot(0, 4, 0));
        check.argument("what -1", x, () -> x.slot(0, 0, -1));
        check.argument("what 4", x, () -> x.slot(2, 3, 4));
        check.index("the door first", x, () -> x.slot(3, 0, 4));
        check.index("the slot ahead of what", x, () -> x.slot(0, 4, 4));
        check.same("a look saves nothing", x.count(7), 2);
    }

    private static void doorWrong() {
        RollingFob x = learnt(0, 0);
        check.index("door -1", x, () -> x.door(-1, 0));
        check.index("door 3", x, () -> x.door(3, 0));
        check.argument("what -1", x, () -> x.door(0, -1));
        check.argument("what 8", x, () -> x.door(2, 8));
        check.index("the door first", x, () -> x.door(3, 8));
        check.same("a look saves nothing", x.count(7), 2);
    }
}
