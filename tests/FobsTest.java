/** Promises 1 (a new object), 2 (make), 3 (battery), 16 (fob). */
public final class FobsTest {
    private static final Check check = new Check("FobsTest");

    public static void main(String[] args) {
        newObject();
        newObjectKnowsNoFob();
        make();
        makeWrong();
        battery();
        batteryWrong();
        looks();
        check.end();
    }

    private static void newObject() {
        RollingFob x = new RollingFob();
        check.same("NONE", RollingFob.NONE, -1);
        for (int fob = 0; fob < 4; fob++) {
            check.same("secret at first", x.fob(fob, 0), fob);
            check.same("counter at first", x.fob(fob, 1), 0);
            check.same("battery at first", x.fob(fob, 2), 100);
            check.same("number at first", x.fob(fob, 3), Check.number(fob, 1));
            check.same("presses at first", x.fob(fob, 4), 0);
        }
        check.same("window at first", x.setting(0), 16);
        check.same("wider window at first", x.setting(1), 100);
        check.same("wrong numbers that lock at first", x.setting(2), 8);
        for (int what = 0; what < 8; what++) {
            check.same("count at first", x.count(what), 0);
            check.same("door at first", x.door(0, what) + x.door(1, what) + x.door(2, what), 0);
        }
        check.sameBits("share at first", x.openShare(), 1.0);
        check.same("air at first", x.air(0), -1);
        check.same("error at first", x.firstError(), 0);
        check.same("buffer at first", x.clearBuffer(), 0);
        check.state("undo at first", x, () -> x.undo());
    }

    private static void newObjectKnowsNoFob() {
        RollingFob x = new RollingFob();
        for (int door = 0; door < 3; door++) {
            for (int slot = 0; slot < 4; slot++) {
                check.same("learnt at first", x.slot(door, slot, 0), 0);
                for (int what = 1; what < 4; what++) {
                    check.same("slot at first", x.slot(door, slot, what), -1);
                }
            }
            check.same("useful at first", x.useful(door), -1);
            for (int fob = 0; fob < 4; fob++) {
                check.same("opensIn at first", x.opensIn(fob, door), -1);
                check.same("unheard at first", x.unheard(fob, door), -1);
            }
        }
        RollingFob y = new RollingFob();
        y.press(0, 7);
        check.same("objects are apart", x.count(0), 0);
    }

    private static void make() {
        RollingFob x = new RollingFob();
        check.same("make", x.make(1, 1234, 567), 0);
        check.same("secret", x.fob(1, 0), 1234);
        check.same("counter", x.fob(1, 1), 567);
        check.same("battery stays", x.fob(1, 2), 100);
        check.same("next number", x.fob(1, 3), Check.number(1234, 568));
        check.same("other fob", x.fob(2, 0), 2);
        check.same("other fob", x.fob(2, 1), 0);
        x.press(1, 0);
        check.same("make answers the counter", x.make(1, 0, 9999), 568);
        check.same("presses stay", x.fob(1, 4), 1);
        check.same("make to the edges", x.make(1, 9999, 0), 9999);
        check.same("make the same again", x.make(1, 9999, 0), 0);
        check.same("each is saved", x.count(7), 5);
        x.learn(0, 0, 1);
        x.make(1, 5, 5);
        check.same("a slot keeps its secret", x.slot(0, 0, 1), 9999);
        check.same("a slot keeps its counter", x.slot(0, 0, 2), 0);
    }

    private static void makeWrong() {
        RollingFob x = new RollingFob();
        check.index("fob -1", x, () -> x.make(-1, 0, 0));
        check.index("fob 4", x, () -> x.make(4, 0, 0));
        check.index("least fob", x, () -> x.make(Integer.MIN_VALUE, 0, 0));
        check.index("greatest fob", x, () -> x.make(Integer.MAX_VALUE, 0, 0));
        check.argument("secret -1", x, () -> x.make(0, -1, 0));
        check.argument("secret 10000", x, () -> x.make(3, 10000, 0));
        check.argument("counter -1", x, () -> x.make(0, 0, -1));
        check.argument("counter 10000", x, () -> x.make(3, 0, 10000));
        check.index("the fob first", x, () -> x.make(4, -1, -1));
        check.same("nothing is saved", x.count(7), 0);
    }

    private static void battery() {
        RollingFob x = new RollingFob();
        check.same("battery", x.battery(2, 999), 100);
        check.same("battery", x.battery(2, 0), 999);
        check.same("battery", x.battery(2, 0), 0);
        check.same("battery", x.fob(2, 2), 0);
        check.same("other fob", x.fob(1, 2), 100);
        check.same("counter stays", x.fob(2, 1), 0);
        check.same("each is saved", x.count(7), 3);
        x.battery(2, 2);
        x.press(2, 0);
        check.same("battery answers the previous one", x.battery(2, 7), 1);
        x.undo();
        check.same("battery is undone", x.fob(2, 2), 1);
    }

    private static void batteryWrong() {
        RollingFob x = new RollingFob();
        check.index("fob -1", x, () -> x.battery(-1, 0));
        check.index("fob 4", x, () -> x.battery(4, 0));
        check.argument("battery -1", x, () -> x.battery(0, -1));
        check.argument("battery 1000", x, () -> x.battery(3, 1000));
        check.index("the fob first", x, () -> x.battery(-1, 1000));
        check.same("nothing is saved", x.count(7), 0);
    }

    private static void looks() {
        RollingFob x = new RollingFob();
        x.make(3, 9999, 9999);
        check.same("next number behind 9999", x.fob(3, 3), Check.number(9999, 0));
        x.press(3, 0);
        check.same("counter behind 9999", x.fob(3, 1), 0);
        check.same("number behind 9999", x.air(0), Check.number(9999, 0));
        check.same("presses", x.fob(3, 4), 1);
        x.make(3, 9999, 9998);
        check.same("number of the greatest", x.fob(3, 3), Check.number(9999, 9999));
        check.same("a look saves nothing", x.count(7), 3);
        check.index("fob -1", x, () -> x.fob(-1, 0));
        check.index("fob 4", x, () -> x.fob(4, 0));
        check.argument("what -1", x, () -> x.fob(0, -1));
        check.argument("what 5", x, () -> x.fob(3, 5));
        check.index("the fob first", x, () -> x.fob(4, 5));
    }
}
