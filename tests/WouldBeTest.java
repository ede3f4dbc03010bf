/** Promises 22 (ifHeard), 23 (opensIn), 24 (unheard), 25 (useful): nothing is changed by them. */
public final class WouldBeTest {
    private static final Check check = new Check("WouldBeTest");

    public static void main(String[] args) {
        ifHeard();
        ifHeardWrong();
        opensIn();
        opensInLate();
        opensInLocked();
        opensInWrong();
        unheard();
        unheardOdd();
        unheardWrong();
        useful();
        check.end();
    }

    private static RollingFob learnt(int secret, int counter) {
        RollingFob x = new RollingFob();
        x.make(0, secret, counter);
        x.learn(0, 0, 0);
        return x;
    }

    private static void ifHeard() {
        RollingFob x = learnt(70, 9990);
        long before = x.digest();
        check.same("in the window", x.ifHeard(0, Check.number(70, 9991)), 0);
        check.same("at its end", x.ifHeard(0, Check.number(70, 6)), 0);
        check.same("behind it", x.ifHeard(0, Check.number(70, 7)), 1);
        check.same("nothing is noted", x.ifHeard(0, Check.number(70, 8)), 1);
        check.same("at the wider one's end", x.ifHeard(0, Check.number(70, 90)), 1);
        check.same("behind it", x.ifHeard(0, Check.number(70, 91)), 2);
        check.same("too old", x.ifHeard(0, Check.number(70, 9990)), 2);
        check.same("another door", x.ifHeard(1, Check.number(70, 9991)), 2);
        check.same("number 0", x.ifHeard(1, 0), 2);
        check.same("number 65535", x.ifHeard(2, 65535), 2);
        check.same("nothing is changed", x.digest(), before);
        x.make(0, 70, 29);
        x.press(0, 1);
        check.same("behind the noted one", x.ifHeard(0, Check.number(70, 31)), 0);
        check.same("two behind the noted one", x.ifHeard(0, Check.number(70, 32)), 1);
        x.set(2, 1);
        x.press(3, 1);
        check.same("locked", x.ifHeard(0, Check.number(70, 31)), 3);
        check.same("locked, a wrong one", x.ifHeard(0, 1), 3);
        check.same("heard while locked", x.door(0, 7), 0);
        x.unlock(0);
        check.same("unlocked", x.ifHeard(0, Check.number(70, 31)), 0);
        check.same("unlocked, a wrong one", x.ifHeard(0, 1), 2);
    }

    private static void ifHeardWrong() {
        RollingFob x = learnt(0, 0);
        check.index("door -1", x, () -> x.ifHeard(-1, 0));
        check.index("door 3", x, () -> x.ifHeard(3, 0));
        check.argument("number -1", x, () -> x.ifHeard(0, -1));
        check.argument("number 65536", x, () -> x.ifHeard(2, 65536));
        check.index("the door first", x, () -> x.ifHeard(3, -1));
    }

    private static void opensIn() {
        RollingFob x = learnt(0, 0);
        x.make(0, 0, 15);
        long before = x.digest();
        check.same("in the window", x.opensIn(0, 0), 1);
        check.same("nothing is changed", x.digest(), before);
        x.make(0, 0, 16);
        check.same("two behind one another", x.opensIn(0, 0), 2);
        x.battery(0, 2);
        check.same("battery 2 does", x.opensIn(0, 0), 2);
        x.battery(0, 1);
        check.same("battery 1 does not", x.opensIn(0, 0), -1);
        x.press(0, 1);
        check.same("noted", x.slot(0, 0, 3), 17);
        x.battery(0, 1);
        check.same("behind the noted one", x.opensIn(0, 0), 1);
        x.battery(0, 0);
        check.same("battery 0", x.opensIn(0, 0), -1);
        x.battery(0, 100);
        x.make(0, 0, 98);
        check.same("the last two of the wider window", x.opensIn(0, 0), 2);
        x.make(0, 0, 99);
        check.same("the last one alone", x.opensIn(0, 0), -1);
        check.same("another door", x.opensIn(0, 1), -1);
        check.same("another fob", x.opensIn(1, 0), -1);
        x.make(0, 0, 0);
        x.press(0, 1);
        check.same("an open door", x.opensIn(0, 0), 1);
    }

    /** A fob that lies behind the door's last counter comes into the window by presses. */
    private static void opensInLate() {
        RollingFob x = learnt(0, 1000);
        x.set(2, 0);
        x.make(0, 0, 951);
        check.same("50 presses", x.opensIn(0, 0), 50);
        x.battery(0, 50);
        check.same("battery 50 does", x.opensIn(0, 0), 50);
        x.battery(0, 49);
        check.same("battery 49 does not", x.opensIn(0, 0), -1);
        x.battery(0, 100);
        x.make(0, 0, 950);
        check.same("51 presses", x.opensIn(0, 0), -1);
        x.make(0, 0, 1000);
        check.same("1 press", x.opensIn(0, 0), 1);
        x.set(0, 1);
        x.set(1, 1);
        x.make(0, 0, 990);
        check.same("11 presses, the narrowest window", x.opensIn(0, 0), 11);
        check.same("not pressed", x.count(0), 0);
    }

    private static void opensInLocked() {
        RollingFob x = learnt(0, 1000);
        x.make(0, 0, 992);
        check.same("8 wrong ones lock it", x.opensIn(0, 0), -1);
        x.make(0, 0, 993);
        check.same("7 do not", x.opensIn(0, 0), 8);
        x.press(1, 1);
        check.same("with one ahead they do", x.opensIn(0, 0), -1);
        x.unlock(0);
        check.same("unlocked", x.opensIn(0, 0), 8);
        x.set(2, 1);
        x.press(1, 1);
        x.make(0, 0, 1000);
        check.same("locked", x.opensIn(0, 0), -1);
        check.same("heard while locked", x.door(0, 7), 0);
    }

    private static void opensInWrong() {
        RollingFob x = learnt(0, 0);
        check.index("fob -1", x, () -> x.opensIn(-1, 0));
        check.index("fob 4", x, () -> x.opensIn(4, 0));
        check.index("door -1", x, () -> x.opensIn(0, -1));
        check.index("door 3", x, () -> x.opensIn(3, 3));
    }

    private static void unheard() {
        RollingFob x = learnt(0, 9995);
        check.same("15 of 16", x.unheard(0, 0), 15);
        x.battery(0, 0);
        check.same("batteries do not matter", x.unheard(0, 0), 15);
        x.make(0, 0, 10);
        check.same("the last one of the window", x.unheard(0, 0), 0);
        x.make(0, 0, 11);
        check.same("behind the window", x.unheard(0, 0), -1);
        x.battery(0, 5);
        x.press(0, 1);
        check.same("noted", x.slot(0, 0, 3), 12);
        check.same("behind the noted one", x.unheard(0, 0), 0);
        x.press(0, 0);
        check.same("that was lost", x.unheard(0, 0), -1);
        check.same("another fob", x.unheard(1, 0), -1);
        check.same("another door", x.unheard(0, 1), -1);
        x.make(0, 0, 9995);
        x.set(0, 64);
        check.same("63 of 64", x.unheard(0, 0), 63);
        x.set(1, 20);
        check.same("the wider window counts if it is less", x.unheard(0, 0), 19);
        x.set(2, 1);
        x.press(3, 1);
        check.same("locked", x.unheard(0, 0), -1);
        check.same("pressed thrice", x.count(0), 3);
    }

    /** Beyond 64 a second slot of the secret must go on, up to 99 of what its window leaves. */
    private static void unheardOdd() {
        RollingFob x = learnt(0, 0);
        x.set(0, 64);
        x.set(1, 64);
        x.make(0, 0, 60);
        x.learn(0, 1, 0);
        x.make(0, 0, 0);
        check.same("two slots of one secret", x.unheard(0, 0), 99);
        x.make(0, 0, 25);
        check.same("up to 124", x.unheard(0, 0), 98);
        x.make(0, 0, 24);
        check.same("up to 124", x.unheard(0, 0), 99);
        x.make(0, 0, 9999);
        check.same("too old with none lost", x.unheard(0, 0), -1);
    }

    private static void unheardWrong() {
        RollingFob x = learnt(0, 0);
        check.index("fob -1", x, () -> x.unheard(-1, 0));
        check.index("fob 4", x, () -> x.unheard(4, 0));
        check.index("door -1", x, () -> x.unheard(0, -1));
        check.index("door 3", x, () -> x.unheard(3, 3));
    }

    private static void useful() {
        RollingFob x = learnt(0, 0);
        check.same("nothing in the air", x.useful(0), -1);
        x.press(0, 0);
        x.press(0, 0);
        x.press(1, 0);
        check.same("the least place", x.useful(0), 1);
        check.same("another door", x.useful(1), -1);
        x.again(1, 1);
        check.same("all are too old", x.useful(0), -1);
        x.make(0, 0, 39);
        x.press(0, 0);
        check.same("one that would be noted", x.useful(0), -1);
        x.press(0, 0);
        x.again(1, 1);
        check.same("one behind the noted one", x.useful(0), 0);
        for (int i = 0; i < 7; i++) {
            x.press(2, 0);
        }
        check.same("place 7", x.useful(0), 7);
        x.press(2, 0);
        check.same("place 8 is gone", x.useful(0), -1);
        x.undo();
        x.set(2, 1);
        x.press(3, 1);
        x.learn(0, 0, 0);
        x.press(0, 0);
        check.same("locked", x.useful(0), -1);
        x.unlock(0);
        check.same("unlocked", x.useful(0), 0);
        check.index("door -1", x, () -> x.useful(-1));
        check.index("door 3", x, () -> x.useful(3));
    }
}
