/** Promises 4 (press), 5 (again), 19 (air). */
public final class AirTest {
    private static final Check check = new Check("AirTest");

    public static void main(String[] args) {
        press();
        pressOpens();
        pressWrong();
        again();
        againWrong();
        air();
        check.end();
    }

    private static void press() {
        RollingFob x = new RollingFob();
        x.make(0, 77, 9998);
        check.same("press unheard", x.press(0, 0), 0);
        check.same("counter", x.fob(0, 1), 9999);
        check.same("battery", x.fob(0, 2), 99);
        check.same("presses", x.fob(0, 4), 1);
        check.same("number", x.air(0), Check.number(77, 9999));
        check.same("press again", x.press(0, 0), 0);
        check.same("counter behind 9999", x.fob(0, 1), 0);
        check.same("number", x.air(0), Check.number(77, 0));
        check.same("no door heard it", x.door(0, 6) + x.door(1, 6) + x.door(2, 6), 0);
        x.press(0, 5);
        check.same("door 0 heard it", x.door(0, 6), 1);
        check.same("door 1 did not", x.door(1, 6), 0);
        check.same("door 2 heard it", x.door(2, 6), 1);
        check.same("each is saved", x.count(7), 4);
    }

    private static void pressOpens() {
        RollingFob x = new RollingFob();
        x.learn(0, 0, 1);
        x.learn(2, 3, 1);
        check.same("two doors open", x.press(1, 7), 5);
        check.same("door 0 is open", x.door(0, 0), 1);
        check.same("door 1 is shut", x.door(1, 0), 0);
        check.same("door 2 is open", x.door(2, 0), 1);
        check.same("an open one opens, too", x.press(1, 4), 4);
        check.same("its last counter", x.slot(2, 3, 2), 2);
        check.same("the other's last counter", x.slot(0, 0, 2), 1);
        check.same("how often it opened", x.door(2, 4), 2);
        x.battery(1, 1);
        check.same("the battery's last press", x.press(1, 1), 1);
        check.same("battery", x.fob(1, 2), 0);
        check.same("presses by again", x.count(3), 0);
    }

    private static void pressWrong() {
        RollingFob x = new RollingFob();
        check.index("fob -1", x, () -> x.press(-1, 0));
        check.index("fob 4", x, () -> x.press(4, 0));
        check.argument("doors -1", x, () -> x.press(0, -1));
        check.argument("doors 8", x, () -> x.press(3, 8));
        x.battery(0, 0);
        check.state("battery 0", x, () -> x.press(0, 7));
        check.index("the fob first", x, () -> x.press(4, 8));
        check.argument("doors ahead of the battery", x, () -> x.press(0, 8));
        check.same("nothing is saved", x.count(7), 1);
        check.same("nothing is sent", x.count(6), 0);
    }

    private static void again() {
        RollingFob x = new RollingFob();
        x.learn(1, 0, 0);
        x.learn(2, 0, 0);
        x.press(0, 0);
        x.press(0, 0);
        check.same("the older one opens", x.again(1, 2), 2);
        check.same("the last counter", x.slot(1, 0, 2), 1);
        check.same("nothing is recorded", x.count(6), 2);
        check.same("nothing is recorded", x.air(0), Check.number(0, 2));
        check.same("counter of the fob stays", x.fob(0, 1), 2);
        check.same("battery of the fob stays", x.fob(0, 2), 98);
        check.same("presses stay", x.count(0), 2);
        check.same("the latest one opens", x.again(0, 6), 6);
        check.same("the same one is too old", x.again(0, 6), 0);
        check.same("that is a wrong number", x.door(1, 6), 1);
        check.same("unheard", x.again(0, 0), 0);
        check.same("sent again", x.count(1), 4);
        check.same("opened", x.count(2), 3);
        check.same("opened by numbers sent again", x.count(3), 3);
        check.same("each is saved", x.count(7), 6);
    }

    private static void againWrong() {
        RollingFob x = new RollingFob();
        check.index("nothing in the air", x, () -> x.again(0, 0));
        x.press(0, 0);
        check.index("place 1 of 1", x, () -> x.again(1, 0));
        check.index("place -1", x, () -> x.again(-1, 0));
        check.argument("doors -1", x, () -> x.again(0, -1));
        check.argument("doors 8", x, () -> x.again(0, 8));
        check.index("the place first", x, () -> x.again(1, 8));
        for (int i = 0; i < 9; i++) {
            x.press(1, 0);
        }
        check.same("place 7", x.again(7, 0), 0);
        check.index("place 8", x, () -> x.again(8, 0));
        check.index("greatest place", x, () -> x.again(Integer.MAX_VALUE, 0));
        check.same("sent again", x.count(1), 1);
    }

    private static void air() {
        RollingFob x = new RollingFob();
        for (int i = 1; i <= 7; i++) {
            x.press(2, 0);
            check.same("recorded", x.count(6), i);
            check.same("the first one", x.air(i - 1), Check.number(2, 1));
            check.same("behind it", x.air(i), -1);
        }
        x.press(3, 0);
        x.press(3, 0);
        check.same("at most 8 are kept", x.count(6), 8);
        check.same("the latest", x.air(0), Check.number(3, 2));
        check.same("the one ahead", x.air(1), Check.number(3, 1));
        check.same("the oldest", x.air(7), Check.number(2, 2));
        check.same("place 8", x.air(8), -1);
        check.same("greatest place", x.air(Integer.MAX_VALUE), -1);
        check.argument("place -1", x, () -> x.air(-1));
        check.argument("least place", x, () -> x.air(Integer.MIN_VALUE));
    }
}
