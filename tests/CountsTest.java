/** Promises 20 (count), 26 (openShare), 27 (digest). */
public final class CountsTest {
    private static final Check check = new Check("CountsTest");

    public static void main(String[] args) {
        counts();
        countWrong();
        share();
        shareBits();
        digestOfNew();
        digestSees();
        digestOfDoor0();
        check.end();
    }

    private static void counts() {
        RollingFob x = new RollingFob();
        x.set(2, 2);
        x.learn(0, 0, 0);
        x.learn(1, 0, 0);
        x.press(0, 3);
        x.press(1, 6);
        x.press(1, 4);
        x.again(2, 1);
        x.press(0, 0);
        x.again(0, 3);
        x.again(0, 0);
        due(x, 0, 4);
        due(x, 1, 3);
        due(x, 2, 4);
        due(x, 3, 2);
        due(x, 4, 2);
        due(x, 5, 1);
        due(x, 6, 4);
        due(x, 7, 6);
        x.shut(0);
        due(x, 4, 1);
        due(x, 2, 4);
        x.press(3, 2);
        x.press(3, 2);
        due(x, 5, 2);
        x.set(2, 0);
        due(x, 5, 0);
        x.undo();
        x.undo();
        x.undo();
        x.unlock(2);
        due(x, 5, 0);
        x.make(0, 0, 0);
        due(x, 0, 4);
        x.forget(0, 0);
        due(x, 2, 4);
        Check.play(x, "f00;r012;c1");
        due(x, 0, 5);
        due(x, 1, 4);
        due(x, 4, 0);
        due(x, 6, 5);
    }

    private static void due(RollingFob x, int what, int due) {
        check.same("count(" + what + ")", x.count(what), due);
    }

    private static void countWrong() {
        RollingFob x = new RollingFob();
        check.argument("what -1", x, () -> x.count(-1));
        check.argument("what 8", x, () -> x.count(8));
        check.argument("least what", x, () -> x.count(Integer.MIN_VALUE));
    }

    private static void share() {
        RollingFob x = new RollingFob();
        x.set(2, 0);
        x.press(0, 0);
        check.sameBits("nothing heard", x.openShare(), 1.0);
        x.press(0, 1);
        check.sameBits("wrong numbers alone", x.openShare(), 0.0);
        x.learn(0, 0, 0);
        x.learn(1, 0, 0);
        x.press(0, 3);
        check.sameBits("2 of 3", x.openShare(), 2.0 / 3.0);
        x.press(0, 7);
        check.sameBits("4 of 6", x.openShare(), 4.0 / 6.0);
        x.unlock(0);
        x.shut(0);
        check.sameBits("unlocking leaves it", x.openShare(), 4.0 / 6.0);
        x.again(0, 4);
        check.sameBits("4 of 7", x.openShare(), 4.0 / 7.0);
        x.make(0, 0, 50);
        x.press(0, 1);
        check.sameBits("a noted one is not counted", x.openShare(), 4.0 / 7.0);
        x.set(2, 1);
        x.press(0, 4);
        check.sameBits("one for a locked door neither", x.openShare(), 4.0 / 7.0);
        x.again(0, 1);
        check.sameBits("one that catches up is", x.openShare(), 5.0 / 8.0);
        RollingFob y = new RollingFob();
        y.learn(0, 0, 0);
        y.press(0, 1);
        check.sameBits("all opened", y.openShare(), 1.0);
    }

    /** The digest of many shares, by the model, which takes the bits from the Java library. */
    private static void shareBits() {
        for (int wrong = 0; wrong < 60; wrong += 7) {
            RollingFob x = new RollingFob();
            Model model = new Model();
            x.set(2, 0);
            model.set(2, 0);
            x.learn(0, 0, 0);
            model.learn(0, 0, 0);
            for (int i = 0; i < wrong; i++) {
                x.press(1, 7);
                model.press(1, 7);
            }
            for (int opened = 0; opened < 20; opened++) {
                check.same("digest of " + opened + " opened", x.digest(), model.digest());
                x.press(0, 1);
                model.press(0, 1);
            }
        }
    }

    /** The list of values written out by hand. */
    private static void digestOfNew() {
        long hash = 3257;
        int[] head = {0, 0, 0, 0, 0, 0, 0, 0, 16, 100, 8};
        for (int v : head) {
            hash = 31 * hash + v;
        }
        for (int fob = 0; fob < 4; fob++) {
            int[] numbers = {fob, 0, 100, Check.number(fob, 1), 0};
            for (int v : numbers) {
                hash = 31 * hash + v;
            }
        }
        for (int door = 0; door < 3; door++) {
            for (int what = 0; what < 8; what++) {
                hash = 31 * hash;
            }
            for (int slot = 0; slot < 4; slot++) {
                int[] empty = {0, -1, -1, -1};
                for (int v : empty) {
                    hash = 31 * hash + v;
                }
            }
            for (int i = 0; i < 9; i++) {
                hash = 31 * hash - 1;
            }
        }
        hash = 31 * hash + 2;
        hash = 31 * hash + 0x3FF0000000000000L;
        hash = 31 * hash + 0;
        RollingFob x = new RollingFob();
        check.same("digest of a new object", x.digest(), hash);
        check.same("and again", x.digest(), hash);
        x.append('f');
        x.append('~');
        check.same("digest with a buffer", x.digest(), ((hash + 2) * 31 + 'f') * 31 + '~');
    }

    private static void digestSees() {
        RollingFob x = new RollingFob();
        x.learn(0, 0, 0);
        long first = x.digest();
        check.same("looks leave the digest", x.digest(), first);
        x.shut(0);
        check.holds("a saved state changes it", x.digest() != first);
        x.undo();
        check.same("undone", x.digest(), first);
        x.append('f');
        long withText = x.digest();
        check.holds("a character changes it", withText != first);
        x.clearBuffer();
        x.append('r');
        check.holds("another character changes it", x.digest() != withText);
        x.clearBuffer();
        check.same("cleared", x.digest(), first);
    }

    /** The digest holds what door 0 would do with 7919, and with no number near it. */
    private static void digestOfDoor0() {
        RollingFob x = new RollingFob();
        Model model = new Model();
        x.set(2, 1);
        model.set(2, 1);
        x.press(0, 1);
        model.press(0, 1);
        check.same("door 0 locked", x.digest(), model.digest());
        x.unlock(0);
        model.unlock(0);
        x.press(0, 2);
        model.press(0, 2);
        check.same("door 1 locked", x.digest(), model.digest());
        nextIs(7918);
        nextIs(7920);
    }

    private static void nextIs(int number) {
        for (int at = 0; at < 10000 * 9999; at++) {
            int secret = at % 10000;
            int counter = at / 10000;
            if (Check.number(secret, counter + 1) == number) {
                RollingFob x = new RollingFob();
                Model model = new Model();
                x.make(0, secret, counter);
                model.make(0, secret, counter);
                x.learn(0, 0, 0);
                model.learn(0, 0, 0);
                check.same("it would open", x.ifHeard(0, number), 0);
                check.same("digest beside " + number, x.digest(), model.digest());
                return;
            }
        }
        check.holds("there is a secret for " + number, false);
    }
}
