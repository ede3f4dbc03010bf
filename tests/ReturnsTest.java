import java.util.ArrayList;
import java.util.List;

/** What each promise says of its call, and what "Returns" says, at the edges: promise by promise. */
public final class ReturnsTest {
    private static final Check check = new Check("ReturnsTest");

    public static void main(String[] args) {
        undoable();
        texts();
        looks();
        whatWouldBe();
        check.end();
    }

    private static void undoable() {
        objectsAreApart();
        previousCounter();
        previousBattery();
        doorsThatOpen();
        doorsThatDoNot();
        doorsThatOpenAgain();
        slotsLearntThen();
        learnAsTheyAre();
        learnWhileLocked();
        learntOrNot();
        openOrNot();
        wrongNumbersItHad();
        previousValue();
    }

    private static void texts() {
        newLength();
        lengthItHad();
        firstError();
        partsDone();
        impossibleParts();
        sentAgainInAText();
        statesLeft();
    }

    private static void looks() {
        somethingOfAFob();
        somethingOfASlot();
        somethingOfADoor();
        recordedNumber();
        presses();
        doorsOpened();
        openAndLockedDoors();
        recordedAndSaved();
        settings();
    }

    private static void whatWouldBe() {
        whatADoorWouldDo();
        pressesUntilItOpens();
        fiftyPresses();
        batteryDoes();
        pressesThatLock();
        pressesThatCatchUp();
        pressesAcross9999();
        unheardOnes();
        unheardGaps();
        unheardOfALockedDoor();
        leastPlace();
        noPlace();
        share();
        digest();
    }

    /** A new object whose door 0 has learnt fob 0, of that secret and counter, in slot 0. */
    private static RollingFob learnt(int secret, int counter) {
        RollingFob x = new RollingFob();
        x.make(0, secret, counter);
        x.learn(0, 0, 0);
        return x;
    }

    private static void presses(RollingFob x, int fob, int doors, int times) {
        for (int i = 0; i < times; i++) {
            x.press(fob, doors);
        }
    }

    // ---- Promises 1 to 10

    /** 1: each object has fobs, doors, air, buffer and saved states of its own. */
    private static void objectsAreApart() {
        RollingFob x = new RollingFob();
        RollingFob y = new RollingFob();
        long before = y.digest();
        x.learn(0, 0, 0);
        x.press(0, 7);
        x.set(0, 1);
        x.append('c');
        check.same("the other one", y.digest(), before);
        check.same("a new one", new RollingFob().digest(), before);
        check.holds("this one", x.digest() != before);
    }

    /** 2: "Returns the previous counter." */
    private static void previousCounter() {
        RollingFob x = new RollingFob();
        check.same("0", x.make(3, 9999, 9999), 0);
        x.press(3, 0);
        check.same("0 behind 9999", x.make(3, 0, 9998), 0);
        x.press(3, 0);
        check.same("9999", x.make(3, 0, 0), 9999);
        check.same("the secret", x.fob(3, 0), 0);
        x.undo();
        check.same("undone", x.make(3, 1, 1), 9999);
    }

    /** 3: "Returns the previous one." */
    private static void previousBattery() {
        RollingFob x = new RollingFob();
        check.same("100", x.battery(0, 0), 100);
        check.same("0", x.battery(0, 999), 0);
        x.press(0, 0);
        check.same("998", x.battery(0, 1), 998);
        x.press(0, 0);
        check.same("run down", x.battery(0, 1), 0);
        check.same("presses so far stay", x.fob(0, 4), 2);
    }

    /** 4: "Returns a mask of the doors that open by it (also of those that were open)." */
    private static void doorsThatOpen() {
        for (int knowing = 0; knowing < 8; knowing++) {
            RollingFob x = new RollingFob();
            for (int door = 0; door < 3; door++) {
                if ((knowing >> door & 1) == 1) {
                    x.learn(door, door, 2);
                }
            }
            for (int doors = 0; doors < 8; doors++) {
                check.same("those that know it of those that hear it", x.press(2, doors), doors & knowing);
            }
            check.same("all that were open", x.press(2, 7), knowing);
        }
    }

    /** 4: a door that notes the number, that is locked, or that is open already but hears nothing is none of them. */
    private static void doorsThatDoNot() {
        RollingFob x = new RollingFob();
        x.learn(0, 0, 0);
        x.make(0, 0, 49);
        x.learn(1, 0, 0);
        x.learn(2, 0, 0);
        x.set(2, 1);
        x.press(3, 4);
        check.same("one notes, one opens, one is locked", x.press(0, 7), 2);
        check.same("one catches up, one opens, one is locked", x.press(0, 7), 3);
        check.same("all are open, none hears", x.press(0, 0), 0);
        check.same("two are open", x.count(4), 2);
    }

    /** 5: "Returns a mask of the doors that open by it." */
    private static void doorsThatOpenAgain() {
        for (int doors = 0; doors < 8; doors++) {
            RollingFob x = new RollingFob();
            x.learn(0, 0, 1);
            x.learn(2, 0, 1);
            x.press(1, 0);
            check.same("those that know it of those that hear it", x.again(0, doors), doors & 5);
            check.same("those that have not heard it yet", x.again(0, 7), 5 & ~doors);
            check.same("it is too old for all", x.again(0, 7), 0);
            check.same("opened by numbers that were sent again", x.count(3), 2);
            check.same("sent again", x.count(1), 3);
        }
    }

    /** 6: "Returns how many slots the door has learnt then." */
    private static void slotsLearntThen() {
        RollingFob x = new RollingFob();
        check.same("the first one", x.learn(0, 3, 0), 1);
        check.same("the second one", x.learn(0, 0, 0), 2);
        check.same("another door's first one", x.learn(1, 0, 0), 1);
        check.same("the third one", x.learn(0, 2, 0), 3);
        check.same("in place of what is there", x.learn(0, 2, 1), 3);
        check.same("the fourth one", x.learn(0, 1, 0), 4);
        check.same("in place of what is there", x.learn(0, 1, 3), 4);
        x.forget(0, 1);
        check.same("in the place of a forgotten one", x.learn(0, 1, 3), 4);
    }

    /** 6: "its secret and its counter as they are, in place of what is there; nothing is noted in it". */
    private static void learnAsTheyAre() {
        RollingFob x = learnt(500, 9999);
        check.same("secret", x.slot(0, 0, 1), 500);
        check.same("last", x.slot(0, 0, 2), 9999);
        x.make(0, 500, 60);
        x.press(0, 1);
        check.same("noted", x.slot(0, 0, 3), 61);
        x.learn(0, 0, 0);
        check.same("nothing is noted", x.slot(0, 0, 3), -1);
        check.same("last", x.slot(0, 0, 2), 61);
        check.same("the one that was sent is too old", x.again(0, 1), 0);
        check.same("the next one opens", x.press(0, 1), 1);
        x.make(0, 0, 0);
        x.learn(0, 0, 0);
        check.same("the least secret", x.slot(0, 0, 1), 0);
        check.same("the least counter", x.slot(0, 0, 2), 0);
    }

    /** 6: learning changes a slot alone: a door stays locked, and open. */
    private static void learnWhileLocked() {
        RollingFob x = learnt(0, 0);
        x.press(0, 1);
        x.set(2, 2);
        presses(x, 3, 1, 2);
        x.learn(0, 1, 3);
        check.same("locked", x.door(0, 2), 1);
        check.same("open", x.door(0, 0), 1);
        check.same("in a row", x.door(0, 1), 2);
        check.same("it does not open", x.press(3, 1), 0);
    }

    /** 7: "Returns 1 if it was learnt, otherwise 0." */
    private static void learntOrNot() {
        RollingFob x = new RollingFob();
        for (int door = 0; door < 3; door++) {
            for (int slot = 0; slot < 4; slot++) {
                check.same("never learnt", x.forget(door, slot), 0);
                x.learn(door, slot, 0);
                check.same("learnt", x.forget(door, slot), 1);
                check.same("forgotten", x.forget(door, slot), 0);
            }
        }
        x.learn(1, 1, 0);
        x.press(0, 2);
        x.forget(1, 1);
        check.same("the door stays open", x.door(1, 0), 1);
        x.undo();
        check.same("learnt again by undo", x.forget(1, 1), 1);
    }

    /** 8: "Returns 1 if it was open, otherwise 0." */
    private static void openOrNot() {
        RollingFob x = new RollingFob();
        for (int door = 0; door < 3; door++) {
            x.learn(door, 0, 0);
        }
        x.press(0, 5);
        check.same("door 0", x.shut(0), 1);
        check.same("door 1", x.shut(1), 0);
        check.same("door 2", x.shut(2), 1);
        check.same("door 0 again", x.shut(0), 0);
    }

    /** 9: "it has no wrong numbers in a row", "Returns how many it had." */
    private static void wrongNumbersItHad() {
        RollingFob x = new RollingFob();
        check.same("none", x.unlock(0), 0);
        x.set(2, 20);
        presses(x, 3, 1, 19);
        check.same("19, not locked", x.unlock(0), 19);
        presses(x, 3, 1, 25);
        check.same("20, then it was locked", x.unlock(0), 20);
        check.same("none then", x.unlock(0), 0);
        x.set(2, 0);
        presses(x, 3, 1, 25);
        check.same("25, for it never locks", x.unlock(0), 25);
        check.same("so far", x.door(0, 6), 64);
        check.same("heard while locked", x.door(0, 7), 5);
    }

    /** 10: "Returns the previous value." */
    private static void previousValue() {
        RollingFob x = new RollingFob();
        check.same("16", x.set(0, 64), 16);
        check.same("64", x.set(0, 1), 64);
        check.same("1", x.set(0, 1), 1);
        check.same("100", x.set(1, 500), 100);
        check.same("500", x.set(1, 1), 500);
        check.same("8", x.set(2, 20), 8);
        check.same("20", x.set(2, 0), 20);
        check.same("0", x.set(2, 8), 0);
        x.undo();
        check.same("undone", x.setting(2), 0);
    }

    // ---- Promises 11 to 15

    /** 11: "Returns the new length of the buffer." */
    private static void newLength() {
        RollingFob x = new RollingFob();
        check.same("the first one", x.append('!'), 1);
        for (int length = 2; length <= 60; length++) {
            check.same("the next one", x.append(33 + length), length);
        }
        x.clearBuffer();
        check.same("the first one again", x.append('~'), 1);
    }

    /** 12: "Returns the length that it had." */
    private static void lengthItHad() {
        RollingFob x = new RollingFob();
        for (int length : new int[] {0, 1, 59, 60}) {
            for (int i = 0; i < length; i++) {
                x.append('x');
            }
            check.same("the length that it had", x.clearBuffer(), length);
            check.same("none then", x.clearBuffer(), 0);
        }
    }

    /** 13: "the index of the first character that is a syntax error; the length of the buffer if there is none". */
    private static void firstError() {
        error("", 0);
        error("-", 0);
        error("3", 0);
        error("c", 1);
        error("c-", 1);
        error("c02", 2);
        error("c2", 2);
        error("f4", 1);
        error("f3", 2);
        error("f33", 2);
        error("f3-", 3);
        error("r7", 2);
        error("r8", 1);
        error("r9", 1);
        error("r7012", 5);
        error("r70123", 5);
        error("r7010", 4);
        error("r7011", 4);
        error("r720", 3);
        error("r7-;", 4);
        error("r7-;;", 4);
        error("f-", 1);
        error("C0", 0);
        error("f0-,f0-", 3);
        error("xx", 0);
        String most = "f0-;f0-;f0-;f0-;f0-;f0-;f0-;f0-;f0-;f0-;f0-;f0-;f0-;f0-;";
        error(most + "f012", 60);
        error(most + "c0;f", 60);
        error(most + "c0;x", 59);
        error(most + "c00;", 58);
        error("x" + most + "c0;", 0);
    }

    private static void error(String text, int due) {
        RollingFob x = new RollingFob();
        Check.write(x, text);
        check.same("firstError of \"" + text + "\"", x.firstError(), due);
        check.same("once more", x.firstError(), due);
        check.same("the buffer stays", x.clearBuffer(), text.length());
    }

    /** 14: "Returns how many parts are done." */
    private static void partsDone() {
        StringBuilder text = new StringBuilder("c2");
        for (int parts = 1; parts <= 20; parts++) {
            RollingFob x = new RollingFob();
            check.same("all of them", Check.play(x, text.toString()), parts);
            check.same("as one call", x.count(7), 1);
            text.append(";c").append(parts % 3);
        }
        RollingFob y = new RollingFob();
        check.same("15 presses", Check.play(y, "f0-;f0-;f0-;f0-;f0-;f0-;f0-;f0-;f0-;f0-;f0-;f0-;f0-;f0-;f012"), 15);
        check.same("recorded", y.count(6), 8);
        check.same("battery", y.fob(0, 2), 85);
        check.same("the last set is heard", y.door(1, 6) * 10 + y.door(2, 6), 11);
        check.same("as one call", y.undo(), 0);
        check.same("battery", y.fob(0, 2), 100);
    }

    /** 14: "up to the first one that is not possible (a battery is 0, or no such number is in the air)". */
    private static void impossibleParts() {
        RollingFob x = new RollingFob();
        check.same("no number at all", Check.play(x, "r0-;c0;f0-"), 0);
        check.same("nothing behind it is done", x.count(0), 0);
        check.same("the buffer is cleared", x.clearBuffer(), 0);
        check.same("saved as one call", x.count(7), 1);
        check.same("the number of the part ahead", Check.play(x, "f0-;r0-;r1-;f0-"), 2);
        check.same("presses", x.count(0), 1);
        x.battery(1, 1);
        check.same("a battery that runs down", Check.play(x, "f1-;f1-;f2-"), 1);
        check.same("the third part is not done", x.fob(2, 4), 0);
        check.same("the battery is 0 at first", Check.play(x, "f1-"), 0);
        check.same("another fob", Check.play(x, "f2-;f1-"), 1);
        presses(x, 0, 0, 5);
        check.same("eight are recorded", x.count(6), 8);
        check.same("place 7", Check.play(x, "r7-"), 1);
        check.same("a locked door is no hindrance", Check.play(x, "f0012;c0;c1;c2"), 4);
    }

    /** 14: what is sent again in a text is counted as what again sends. */
    private static void sentAgainInAText() {
        RollingFob x = learnt(0, 0);
        x.learn(2, 0, 0);
        check.same("play", Check.play(x, "f0-;r002;c2;r002;f002"), 5);
        check.same("presses", x.count(0), 2);
        check.same("sent again", x.count(1), 2);
        check.same("opened", x.count(2), 4);
        check.same("opened by numbers that were sent again", x.count(3), 2);
        check.same("recorded", x.count(6), 2);
        check.same("both are open", x.count(4), 2);
        check.same("wrong numbers", x.door(0, 6) + x.door(2, 6), 2);
        check.same("the row ended", x.door(0, 1) + x.door(2, 1), 0);
    }

    /** 15: "Returns how many saved states are left." */
    private static void statesLeft() {
        RollingFob x = new RollingFob();
        for (int saved = 1; saved <= 8; saved++) {
            x.shut(1);
            check.same("one fewer than are saved", x.undo(), Math.min(saved, 6) - 1);
            x.shut(1);
            check.same("saved", x.count(7), Math.min(saved, 6));
        }
    }

    // ---- Promises 16 to 21

    /** 16: each number of each fob. */
    private static void somethingOfAFob() {
        RollingFob x = new RollingFob();
        for (int fob = 0; fob < 4; fob++) {
            x.make(fob, 9999 - fob, 9998);
            x.battery(fob, 999 - fob);
            presses(x, fob, 0, 1 + fob);
            check.same("secret", x.fob(fob, 0), 9999 - fob);
            check.same("counter", x.fob(fob, 1), (9999 + fob) % 10000);
            check.same("battery", x.fob(fob, 2), 998 - 2 * fob);
            check.same("the number that it would send next", x.fob(fob, 3), Check.number(9999 - fob, fob));
            check.same("presses so far", x.fob(fob, 4), 1 + fob);
            int next = x.fob(fob, 3);
            x.press(fob, 0);
            check.same("it sends that", x.air(0), next);
        }
        x.battery(0, 0);
        check.same("with the battery 0, too", x.fob(0, 3), Check.number(9999, 1));
    }

    /** 17: "3: its noted counter, NONE without one", "NONE for 1 to 3 if it is not learnt". */
    private static void somethingOfASlot() {
        RollingFob x = new RollingFob();
        x.make(0, 0, 9950);
        x.learn(2, 3, 0);
        check.same("learnt", x.slot(2, 3, 0), 1);
        check.same("the secret 0", x.slot(2, 3, 1), 0);
        check.same("last", x.slot(2, 3, 2), 9950);
        check.same("without a noted one", x.slot(2, 3, 3), RollingFob.NONE);
        x.make(0, 0, 9998);
        x.press(0, 4);
        check.same("9999 is noted", x.slot(2, 3, 3), 9999);
        x.make(0, 0, 4);
        x.press(0, 4);
        check.same("5 is noted", x.slot(2, 3, 3), 5);
        x.forget(2, 3);
        check.same("not learnt", x.slot(2, 3, 0), 0);
        for (int what = 1; what < 4; what++) {
            check.same("NONE", x.slot(2, 3, what), RollingFob.NONE);
        }
        x.make(0, 7, 9950);
        x.learn(2, 3, 0);
        x.make(0, 7, 9999);
        x.press(0, 4);
        check.same("0 is noted", x.slot(2, 3, 3), 0);
    }

    /** 18: each number of each door, told apart. */
    private static void somethingOfADoor() {
        for (int door = 0; door < 3; door++) {
            RollingFob x = new RollingFob();
            int mask = 1 << door;
            x.set(2, 4);
            x.learn(door, 1, 0);
            x.learn(door, 2, 1);
            presses(x, 0, mask, 3);
            presses(x, 1, mask, 2);
            x.make(0, 0, 60);
            x.press(0, mask);
            x.again(0, mask);
            presses(x, 3, mask, 4);
            presses(x, 3, mask, 6);
            int[] due = {1, 4, 1, 2, 5, 2, 4, 6};
            for (int what = 0; what < 8; what++) {
                check.same("number " + what + " of the door", x.door(door, what), due[what]);
                check.same("another door", x.door((door + 1) % 3, what), 0);
            }
        }
    }

    /** 19: "Returns the number, NONE if there are not so many." */
    private static void recordedNumber() {
        RollingFob x = new RollingFob();
        check.same("none", x.air(0), RollingFob.NONE);
        x.press(2, 0);
        check.same("one", x.air(0), Check.number(2, 1));
        check.same("not two", x.air(1), RollingFob.NONE);
        presses(x, 2, 0, 7);
        check.same("the eighth", x.air(7), Check.number(2, 1));
        presses(x, 2, 0, 1);
        check.same("the first is gone", x.air(7), Check.number(2, 2));
        check.same("never nine", x.air(8), RollingFob.NONE);
        check.same("nor more", x.air(Integer.MAX_VALUE), RollingFob.NONE);
        x.undo();
        check.same("back by undo", x.air(7), Check.number(2, 1));
    }

    /** 20: "0: presses so far; 1: numbers that were sent again so far". */
    private static void presses() {
        RollingFob x = new RollingFob();
        for (int fob = 0; fob < 4; fob++) {
            presses(x, fob, 0, fob + 1);
        }
        check.same("presses of all fobs", x.count(0), 10);
        check.same("none was sent again", x.count(1), 0);
        x.again(0, 0);
        x.again(7, 7);
        check.same("sent again", x.count(1), 2);
        check.same("presses", x.count(0), 10);
        x.make(0, 0, 0);
        x.battery(0, 0);
        check.same("presses so far stay", x.count(0), 10);
    }

    /** 20: "2: how often doors opened so far, all together; 3: .. by numbers that were sent again so far". */
    private static void doorsOpened() {
        RollingFob x = new RollingFob();
        for (int door = 0; door < 3; door++) {
            x.learn(door, 0, 0);
        }
        x.press(0, 7);
        check.same("three doors by one press", x.count(2), 3);
        check.same("none by one that is sent again", x.count(3), 0);
        x.press(0, 0);
        x.again(0, 7);
        check.same("three more", x.count(2), 6);
        check.same("by one that is sent again", x.count(3), 3);
        x.again(0, 7);
        check.same("none", x.count(2), 6);
        x.forget(0, 0);
        x.shut(1);
        check.same("so far", x.count(2), 6);
    }

    /** 20: "4: doors that are open; 5: doors that are locked". */
    private static void openAndLockedDoors() {
        RollingFob x = new RollingFob();
        x.set(2, 1);
        for (int door = 0; door < 3; door++) {
            x.learn(door, 0, 0);
            x.press(0, 1 << door);
            check.same("open", x.count(4), door + 1);
            x.press(1, 1 << door);
            check.same("locked", x.count(5), door + 1);
        }
        for (int door = 0; door < 3; door++) {
            x.shut(door);
            check.same("open", x.count(4), 2 - door);
            x.unlock(door);
            check.same("locked", x.count(5), 2 - door);
        }
        x.press(1, 7);
        check.same("all are locked", x.count(5), 3);
        x.set(2, 0);
        check.same("none is", x.count(5), 0);
    }

    /** 20: "6: recorded numbers; 7: saved states". */
    private static void recordedAndSaved() {
        RollingFob x = new RollingFob();
        for (int i = 0; i <= 9; i++) {
            check.same("recorded", x.count(6), Math.min(i, 8));
            check.same("saved", x.count(7), Math.min(i, 6));
            x.press(0, 0);
        }
        x.undo();
        check.same("still 8", x.count(6), 8);
        check.same("5 are saved", x.count(7), 5);
    }

    /** 21: "Returns its value." */
    private static void settings() {
        RollingFob x = new RollingFob();
        x.set(0, 3);
        x.set(1, 2);
        x.set(2, 1);
        check.same("setting 0", x.setting(0), 3);
        check.same("setting 1, though less", x.setting(1), 2);
        check.same("setting 2", x.setting(2), 1);
    }

    // ---- Promises 22 to 27

    /** 22: "0: it would open; 1: it would be noted; 2: it would be a wrong number; 3: the door is locked." */
    private static void whatADoorWouldDo() {
        RollingFob x = learnt(9, 9900);
        x.make(0, 9, 9959);
        x.press(0, 1);
        long before = x.digest();
        for (int counter = 9890; counter < 10020; counter++) {
            int behind = counter - 9900;
            int due = behind < 1 || behind > 100 ? 2 : behind <= 16 || counter == 9961 ? 0 : 1;
            check.same("counter " + counter, x.ifHeard(0, Check.number(9, counter % 10000)), due);
        }
        check.same("nothing is changed", x.digest(), before);
        check.same("the least number", x.ifHeard(0, 0), 2);
        check.same("the greatest number", x.ifHeard(0, 65535), 2);
        x.set(2, 1);
        x.press(3, 1);
        check.same("locked", x.ifHeard(0, Check.number(9, 9901)), 3);
        check.same("the least number", x.ifHeard(0, 0), 3);
        check.same("the greatest number", x.ifHeard(0, 65535), 3);
        check.same("nothing is counted", x.door(0, 7), 0);
    }

    /** 23: "Returns how many presses": tried out by presses. */
    private static void pressesUntilItOpens() {
        for (int counter : new int[] {93, 99, 100, 115, 116, 150, 198, 199, 200, 9000}) {
            RollingFob x = learnt(3, 100);
            x.make(0, 3, counter);
            int told = x.opensIn(0, 0);
            int pressed = 0;
            boolean opened = false;
            while (!opened && pressed < 50) {
                pressed++;
                opened = x.press(0, 1) == 1;
            }
            check.same("from the counter " + counter, told, opened ? pressed : -1);
        }
    }

    /** 23: "1 to 50; NONE if it does not open by 50". */
    private static void fiftyPresses() {
        RollingFob x = learnt(3, 100);
        x.set(2, 0);
        x.battery(0, 999);
        for (int counter = 40; counter < 100; counter++) {
            x.make(0, 3, counter);
            check.same("from the counter " + counter, x.opensIn(0, 0), counter < 51 ? -1 : 101 - counter);
        }
        x.make(0, 3, 100);
        check.same("the least", x.opensIn(0, 0), 1);
    }

    /** 23: "or the battery does not do". */
    private static void batteryDoes() {
        RollingFob x = learnt(3, 100);
        int[] counters = {100, 120, 95};
        int[] due = {1, 2, 6};
        for (int i = 0; i < counters.length; i++) {
            x.make(0, 3, counters[i]);
            x.battery(0, due[i]);
            check.same("it just does", x.opensIn(0, 0), due[i]);
            x.battery(0, due[i] - 1);
            check.same("one less does not", x.opensIn(0, 0), -1);
            x.battery(0, 999);
            check.same("more does", x.opensIn(0, 0), due[i]);
        }
    }

    /** 23: "it alone hears each press": the wrong ones among them lock it. */
    private static void pressesThatLock() {
        for (int lock = 1; lock <= 20; lock++) {
            RollingFob x = learnt(3, 100);
            x.set(2, lock);
            x.make(0, 3, 101 - lock);
            check.same("one wrong number less than lock", x.opensIn(0, 0), lock);
            x.make(0, 3, 100 - lock);
            check.same("as many as lock", x.opensIn(0, 0), -1);
            x.set(2, 0);
            check.same("none lock", x.opensIn(0, 0), lock + 1);
        }
    }

    /** 23: two presses one behind the other catch up, one that lies behind a noted one alone. */
    private static void pressesThatCatchUp() {
        RollingFob x = learnt(3, 100);
        x.make(0, 3, 116);
        check.same("17 and 18 behind", x.opensIn(0, 0), 2);
        x.make(0, 3, 198);
        check.same("99 and 100 behind", x.opensIn(0, 0), 2);
        x.make(0, 3, 199);
        check.same("100 behind, then none", x.opensIn(0, 0), -1);
        x.make(0, 3, 149);
        x.press(0, 1);
        check.same("behind the noted one", x.opensIn(0, 0), 1);
        x.press(0, 0);
        check.same("one unheard", x.opensIn(0, 0), 2);
        x.make(0, 3, 148);
        check.same("150, noted once more, and 151", x.opensIn(0, 0), 2);
        check.same("nothing is noted by that", x.slot(0, 0, 3), 150);
    }

    /** 23: counters go on behind 9999. */
    private static void pressesAcross9999() {
        RollingFob x = learnt(3, 9999);
        check.same("0 behind 9999", x.opensIn(0, 0), 1);
        x.make(0, 3, 9995);
        check.same("from 9996 to 0", x.opensIn(0, 0), 5);
        x.make(0, 3, 20);
        check.same("21 and 22", x.opensIn(0, 0), 2);
        RollingFob y = learnt(3, 9980);
        y.make(0, 3, 9998);
        check.same("9999 and 0", y.opensIn(0, 0), 2);
    }

    /** 24: "Returns how many at most, 0 to 99; NONE if not even with 0." */
    private static void unheardOnes() {
        for (int window : new int[] {1, 16, 64}) {
            RollingFob x = learnt(3, 9950);
            x.set(0, window);
            check.same("all but one of the window", x.unheard(0, 0), window - 1);
            x.make(0, 3, (9949 + window) % 10000);
            check.same("the last one of the window", x.unheard(0, 0), 0);
            x.make(0, 3, (9950 + window) % 10000);
            check.same("not even with 0", x.unheard(0, 0), -1);
            x.make(0, 3, 9949);
            check.same("too old by one", x.unheard(0, 0), -1);
        }
        RollingFob y = learnt(3, 50);
        y.set(0, 64);
        y.set(1, 64);
        y.make(0, 3, 110);
        y.learn(0, 1, 0);
        for (int counter = 50; counter < 175; counter++) {
            y.make(0, 3, counter);
            int due = counter == 174 ? -1 : Math.min(99, 173 - counter);
            check.same("two slots, from the counter " + counter, y.unheard(0, 0), due);
        }
        check.same("no press is needed", y.count(0), 0);
    }

    /** 24: "each lesser number of them doing, too", "(batteries do not matter)". */
    private static void unheardGaps() {
        RollingFob x = learnt(3, 100);
        x.make(0, 3, 149);
        x.press(0, 1);
        check.same("151 opens, 152 does not", x.unheard(0, 0), 0);
        x.make(0, 3, 149);
        check.same("151 would open, but 150 does not", x.unheard(0, 0), -1);
        x.make(0, 3, 115);
        x.press(0, 1);
        x.make(0, 3, 99);
        check.same("100 is too old, though 101 would open", x.unheard(0, 0), -1);
        x.make(0, 3, 116);
        x.battery(0, 0);
        check.same("with the battery 0", x.unheard(0, 0), 15);
    }

    /** 24: a locked door opens by none. */
    private static void unheardOfALockedDoor() {
        RollingFob x = learnt(3, 100);
        x.set(2, 1);
        check.same("not locked", x.unheard(0, 0), 15);
        x.press(3, 1);
        check.same("locked", x.unheard(0, 0), -1);
        x.unlock(0);
        check.same("unlocked", x.unheard(0, 0), 15);
        check.same("nothing is counted", x.door(0, 7), 0);
    }

    /** 25: "Returns its place, the least". */
    private static void leastPlace() {
        RollingFob x = learnt(3, 100);
        x.press(0, 0);
        presses(x, 1, 0, 7);
        check.same("the oldest of 8", x.useful(0), 7);
        x.press(1, 0);
        check.same("it is dropped", x.useful(0), -1);
        x.press(0, 0);
        check.same("the latest", x.useful(0), 0);
        x.press(1, 0);
        check.same("the second", x.useful(0), 1);
        x.press(0, 0);
        check.same("two of them: the least place", x.useful(0), 0);
        x.again(2, 1);
        check.same("the other one was used", x.useful(0), 0);
        x.again(0, 1);
        check.same("both were used", x.useful(0), -1);
    }

    /** 25: "NONE if there is none": too old, only noted, another door's, or the door is locked. */
    private static void noPlace() {
        RollingFob x = learnt(3, 100);
        check.same("nothing is recorded", x.useful(0), -1);
        x.press(0, 1);
        check.same("too old", x.useful(0), -1);
        x.make(0, 3, 139);
        x.press(0, 0);
        check.same("it would be noted", x.useful(0), -1);
        x.again(0, 1);
        check.same("it is noted", x.useful(0), -1);
        x.press(0, 0);
        check.same("the one behind it", x.useful(0), 0);
        check.same("another door's", x.useful(1), -1);
        x.set(2, 1);
        x.press(1, 1);
        check.same("the door is locked", x.useful(0), -1);
        x.set(2, 0);
        check.same("not any more", x.useful(0), 1);
    }

    /** 26: "1.0 if both are 0", and "all doors so far". */
    private static void share() {
        RollingFob x = new RollingFob();
        x.learn(0, 0, 0);
        x.set(2, 0);
        check.sameBits("both are 0", x.openShare(), 1.0);
        x.press(0, 6);
        check.sameBits("none of two", x.openShare(), 0.0);
        x.press(0, 1);
        check.sameBits("one of three", x.openShare(), 1.0 / 3.0);
        presses(x, 1, 7, 33);
        check.sameBits("one of 102", x.openShare(), 1.0 / 102.0);
        x.make(0, 0, 90);
        x.press(0, 1);
        check.sameBits("a noted one is none of either", x.openShare(), 1.0 / 102.0);
        x.again(0, 0);
        check.sameBits("nor one that is unheard", x.openShare(), 1.0 / 102.0);
    }

    /** 27: the list of values by the calls themselves, of states at the edges. */
    private static void digest() {
        RollingFob x = new RollingFob();
        digestOf("a new object", x);
        x.set(2, 1);
        x.learn(0, 0, 0);
        x.make(0, 0, 9999);
        x.press(0, 7);
        digestOf("one recorded, doors locked", x);
        RollingFob y = learnt(3, 100);
        presses(y, 0, 1, 8);
        y.make(0, 3, 150);
        y.press(0, 3);
        Check.write(y, "f0-;f0-;f0-;f0-;f0-;f0-;f0-;f0-;f0-;f0-;f0-;f0-;f0-;f0-;~!zA");
        digestOf("8 recorded, one noted, 60 characters", y);
        y.undo();
        digestOf("one undone", y);
    }

    private static void digestOf(String what, RollingFob x) {
        List<Long> values = new ArrayList<>();
        for (int i = 0; i < 8; i++) {
            values.add((long) x.count(i));
        }
        for (int i = 0; i < 3; i++) {
            values.add((long) x.setting(i));
        }
        for (int fob = 0; fob < 4; fob++) {
            for (int i = 0; i < 5; i++) {
                values.add((long) x.fob(fob, i));
            }
        }
        for (int door = 0; door < 3; door++) {
            addDoor(values, x, door);
        }
        for (int place = 0; place < x.count(6); place++) {
            values.add((long) x.air(place));
        }
        values.add((long) x.ifHeard(0, 7919));
        values.add(Double.doubleToLongBits(x.openShare()));
        long got = x.digest();
        long due = 3257;
        for (long value : values) {
            due = 31 * due + value;
        }
        String text = x.firstError() == 56 ? "f0-;f0-;f0-;f0-;f0-;f0-;f0-;f0-;f0-;f0-;f0-;f0-;f0-;f0-;~!zA" : "";
        due = 31 * due + text.length();
        for (char c : text.toCharArray()) {
            due = 31 * due + c;
        }
        check.same("digest of " + what, got, due);
    }

    private static void addDoor(List<Long> values, RollingFob x, int door) {
        for (int i = 0; i < 8; i++) {
            values.add((long) x.door(door, i));
        }
        for (int slot = 0; slot < 4; slot++) {
            for (int i = 0; i < 4; i++) {
                values.add((long) x.slot(door, slot, i));
            }
        }
        values.add((long) x.useful(door));
        for (int fob = 0; fob < 4; fob++) {
            values.add((long) x.opensIn(fob, door));
            values.add((long) x.unheard(fob, door));
        }
    }
}
