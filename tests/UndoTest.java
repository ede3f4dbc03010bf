/** Promise 15 (undo), and which calls are undoable. */
public final class UndoTest {
    private static final Check check = new Check("UndoTest");

    public static void main(String[] args) {
        none();
        six();
        everyCall();
        numbersSentAgain();
        whatIsNotUndoable();
        throwsSaveNothing();
        manyRounds();
        check.end();
    }

    private static void none() {
        RollingFob x = new RollingFob();
        check.state("nothing is saved", x, () -> x.undo());
        x.shut(0);
        check.same("undo", x.undo(), 0);
        check.state("nothing is left", x, () -> x.undo());
    }

    private static void six() {
        RollingFob x = new RollingFob();
        for (int i = 1; i <= 8; i++) {
            x.battery(0, i);
            check.same("saved states", x.count(7), Math.min(i, 6));
        }
        for (int left = 5; left >= 0; left--) {
            check.same("undo", x.undo(), left);
            check.same("the state of then", x.fob(0, 2), left + 2);
            check.same("saved states", x.count(7), left);
        }
        check.state("the oldest were dropped", x, () -> x.undo());
        check.same("it stays", x.fob(0, 2), 2);
    }

    /** An object in which each kind of call changes something. */
    private static RollingFob busy() {
        RollingFob x = new RollingFob();
        x.learn(0, 0, 0);
        x.learn(1, 1, 1);
        x.press(0, 7);
        x.press(1, 2);
        x.make(2, 50, 60);
        x.press(0, 0);
        x.undo();
        return x;
    }

    private static void back(String what, RollingFob x, Check.Call call) {
        long before = x.digest();
        int saved = x.count(7);
        call.run();
        check.same(what + " is saved", x.count(7), saved + 1);
        check.same(what + " is undone", x.undo(), saved);
        check.same(what + " leaves nothing", x.digest(), before);
    }

    private static void everyCall() {
        RollingFob x = busy();
        back("make", x, () -> x.make(0, 7, 7));
        back("battery", x, () -> x.battery(0, 7));
        back("press", x, () -> x.press(0, 7));
        back("again", x, () -> x.again(0, 7));
        back("learn", x, () -> x.learn(0, 1, 2));
        back("forget", x, () -> x.forget(0, 0));
        back("shut", x, () -> x.shut(0));
        back("unlock", x, () -> x.unlock(2));
        back("set", x, () -> x.set(0, 3));
        back("set", x, () -> x.set(1, 3));
        back("set", x, () -> x.set(2, 1));
        back("make of the same", x, () -> x.make(2, 50, 60));
        back("shut of a shut one", x, () -> x.shut(2));
        back("forget of an empty one", x, () -> x.forget(2, 0));
        back("unlock of none in a row", x, () -> x.unlock(0));
        x.undo();
        x.undo();
        x.make(0, 0, 30);
        back("a noted number", x, () -> x.press(0, 1));
        x.set(2, 1);
        back("a number for a locked door", x, () -> x.press(0, 4));
    }

    private static void numbersSentAgain() {
        RollingFob x = new RollingFob();
        x.learn(0, 0, 0);
        x.press(0, 0);
        back("again that opens", x, () -> x.again(0, 1));
        check.same("sent again", x.count(1), 0);
        check.same("opened by it", x.count(3), 0);
        x.again(0, 1);
        check.same("opened by it", x.count(3), 1);
    }

    private static void whatIsNotUndoable() {
        RollingFob x = busy();
        int saved = x.count(7);
        Check.write(x, "f0-");
        x.firstError();
        x.clearBuffer();
        x.append('c');
        x.fob(0, 0);
        x.slot(0, 0, 0);
        x.door(0, 0);
        x.air(0);
        x.count(0);
        x.setting(0);
        x.ifHeard(0, 0);
        x.opensIn(0, 0);
        x.unheard(0, 0);
        x.useful(0);
        x.openShare();
        x.digest();
        check.same("nothing is saved", x.count(7), saved);
        x.undo();
        check.same("undo leaves the buffer", x.clearBuffer(), 1);
        Check.write(x, "c0");
        x.play();
        x.undo();
        check.same("undo brings back no buffer", x.clearBuffer(), 0);
    }

    private static void throwsSaveNothing() {
        RollingFob x = busy();
        x.battery(3, 0);
        int saved = x.count(7);
        check.index("make", x, () -> x.make(4, 0, 0));
        check.state("press", x, () -> x.press(3, 0));
        check.index("again", x, () -> x.again(7, 0));
        check.argument("play", x, () -> x.play());
        check.argument("set", x, () -> x.set(0, 0));
        check.same("nothing is saved", x.count(7), saved);
        x.undo();
        check.same("the call ahead is undone", x.fob(3, 2), 100);
    }

    /** Saving and undoing in turns, past the end of what is kept. */
    private static void manyRounds() {
        RollingFob x = new RollingFob();
        int due = 100;
        for (int round = 0; round < 30; round++) {
            x.battery(0, round);
            x.battery(0, round + 500);
            check.same("undo", x.fob(0, 2), round + 500);
            x.undo();
            check.same("undo", x.fob(0, 2), round);
            if (round % 3 == 0) {
                x.undo();
                check.same("undo twice", x.fob(0, 2), due);
            } else {
                due = round;
            }
        }
        check.same("saved states", x.count(7), 5);
    }
}
