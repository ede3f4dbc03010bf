/** The section "Terms" of the document, sentence by sentence: each function is one sentence and its edges. */
public final class TermsTest {
    private static final Check check = new Check("TermsTest");

    public static void main(String[] args) {
        fobs();
        doors();
        looking();
        opening();
        noting();
        air();
        settings();
        undo();
        check.end();
    }

    private static void fobs() {
        fourFobs();
        fobsAtFirst();
        numbers();
        pressed();
        counterBehind9999();
        batteryRunsDown();
    }

    private static void doors() {
        threeDoors();
        fourSlots();
        doorsAtFirst();
        lockedAtLeast();
        lockedAboveThat();
        settingZeroNeverLocks();
        lockedDoorLooksForNothing();
    }

    private static void looking() {
        slotsFrom0();
        emptySlotsAreSkipped();
        lastOneIsNotMeant();
        widerWindowEnds();
        widerWindowBehind9999();
        oneAheadOf0IsTooOld();
        nearestOn();
        noneIsMeant();
        number0IsMeant();
    }

    private static void opening() {
        windowEnds();
        openingForgetsTheNoted();
        openingEndsTheRow();
        openDoorStaysOpen();
        openDoorLocks();
        openDoorHears();
    }

    private static void noting() {
        justBehindTheNoted();
        notJustBehindTheNoted();
        notedBehind9999();
        notedAtTheEnd();
        notedComesIntoTheWindow();
        notedOutOfTheWindow();
        notedBySlotAndDoor();
        notedIsNoWrongNumber();
    }

    private static void air() {
        allAreRecorded();
        eightAreKept();
        theSameTwice();
        sentAgainRecordsNothing();
        someDoorsHear();
    }

    private static void settings() {
        settingsAtFirst();
        widerLessThanWindow();
        widerAsWindow();
        settingsCountAtOnce();
    }

    private static void undo() {
        atMostSix();
        savedThoughNothingChanges();
        bufferIsNotRestored();
        countsAreRestored();
        everythingIsRestored();
        undoIsNotSaved();
    }

    /** A new object whose door 0 has learnt fob 0, of that secret and counter, in slot 0. */
    private static RollingFob learnt(int secret, int counter) {
        RollingFob x = new RollingFob();
        x.make(0, secret, counter);
        x.learn(0, 0, 0);
        return x;
    }

    /** Lets fob 0 send the number of that counter. */
    private static int pressAt(RollingFob x, int counter, int doors) {
        x.make(0, x.fob(0, 0), (counter + 9999) % 10000);
        return x.press(0, doors);
    }

    /** Lets a door that does not know fob 3 hear so many of its numbers. */
    private static void wrong(RollingFob x, int door, int times) {
        for (int i = 0; i < times; i++) {
            check.same("a wrong number opens nothing", x.press(3, 1 << door), 0);
        }
    }

    // ---- Fobs, numbers

    /** "There are 4 fobs, numbered from 0". */
    private static void fourFobs() {
        RollingFob x = new RollingFob();
        check.index("fob -1", x, () -> x.fob(-1, 0));
        check.same("fob 0", x.fob(0, 0), 0);
        check.same("fob 3", x.fob(3, 0), 3);
        check.index("fob 4", x, () -> x.fob(4, 0));
    }

    /** "a secret, at first its number; a counter, at first 0; and a battery, at first 100". */
    private static void fobsAtFirst() {
        RollingFob x = new RollingFob();
        for (int fob = 0; fob < 4; fob++) {
            check.same("secret at first", x.fob(fob, 0), fob);
            check.same("counter at first", x.fob(fob, 1), 0);
            check.same("battery at first", x.fob(fob, 2), 100);
        }
    }

    /** "The number of a secret s and a counter c is ..": worked out by hand for the edges of both. */
    private static void numbers() {
        number(0, 0, 0);
        number(0, 1, 40502);
        number(1, 1, 48390);
        number(3, 1, 64346);
        number(0, 9999, 33078);
        number(9999, 0, 33744);
        number(9999, 9998, 41180);
        number(9999, 9999, 16090);
        number(1234, 5678, 59500);
    }

    private static void number(int secret, int counter, int due) {
        RollingFob x = new RollingFob();
        x.make(2, secret, (counter + 9999) % 10000);
        check.same("the number that comes next", x.fob(2, 3), due);
        x.press(2, 0);
        check.same("the number that is sent", x.air(0), due);
    }

    /** "its battery becomes 1 less and its counter 1 more .., and it sends the number of .. its new counter". */
    private static void pressed() {
        RollingFob x = new RollingFob();
        x.battery(1, 999);
        x.make(1, 60, 70);
        int next = x.fob(1, 3);
        x.press(1, 7);
        check.same("battery", x.fob(1, 2), 998);
        check.same("counter", x.fob(1, 1), 71);
        check.same("number", x.air(0), next);
        check.same("secret", x.fob(1, 0), 60);
        check.same("another fob's battery", x.fob(0, 2) + x.fob(2, 2) + x.fob(3, 2), 300);
        check.same("another fob's counter", x.fob(0, 1) + x.fob(2, 1) + x.fob(3, 1), 0);
    }

    /** "(behind 9999 comes 0)". */
    private static void counterBehind9999() {
        RollingFob x = new RollingFob();
        x.make(0, 8, 9998);
        x.press(0, 0);
        check.same("9999 is a counter", x.fob(0, 1), 9999);
        x.press(0, 0);
        check.same("0 behind it", x.fob(0, 1), 0);
        x.press(0, 0);
        check.same("1 behind that", x.fob(0, 1), 1);
        check.same("number of 0", x.air(1), Check.number(8, 0));
    }

    /** "It cannot be pressed with the battery 0." */
    private static void batteryRunsDown() {
        RollingFob x = learnt(0, 0);
        x.battery(0, 1);
        check.same("the last press", x.press(0, 1), 1);
        check.same("battery", x.fob(0, 2), 0);
        check.state("the press behind it", x, () -> x.press(0, 1));
        check.state("for no door", x, () -> x.press(0, 0));
        check.same("another fob", x.press(1, 0), 0);
        check.same("what was sent can be sent again", x.again(1, 1), 0);
        x.battery(0, 1);
        check.same("a new battery", x.press(0, 1), 1);
    }

    // ---- Doors

    /** "There are 3 doors, numbered from 0." */
    private static void threeDoors() {
        RollingFob x = new RollingFob();
        check.index("door -1", x, () -> x.shut(-1));
        for (int door = 0; door < 3; door++) {
            x.learn(door, 0, 0);
        }
        check.same("all three open", x.press(0, 7), 7);
        check.index("door 3", x, () -> x.shut(3));
    }

    /** "A door knows at most 4 fobs, by slots 0 to 3 in which they were learnt". */
    private static void fourSlots() {
        RollingFob x = new RollingFob();
        for (int slot = 0; slot < 4; slot++) {
            x.learn(2, slot, 3 - slot);
        }
        for (int fob = 0; fob < 4; fob++) {
            check.same("each of four opens", x.press(fob, 4), 4);
            check.same("by its slot", x.slot(2, 3 - fob, 2), 1);
        }
        check.same("four are learnt", x.door(2, 3), 4);
        x.learn(2, 3, 3);
        check.same("one in place of another", x.press(0, 4), 0);
        check.same("still four", x.door(2, 3), 4);
    }

    /** "at first shut, and has wrong numbers in a row, at first 0". */
    private static void doorsAtFirst() {
        RollingFob x = new RollingFob();
        for (int door = 0; door < 3; door++) {
            check.same("shut", x.door(door, 0), 0);
            check.same("no wrong numbers in a row", x.door(door, 1), 0);
            check.same("not locked", x.door(door, 2), 0);
            check.same("nothing learnt", x.door(door, 3), 0);
        }
    }

    /** "it is locked as long as these are at least setting 2". */
    private static void lockedAtLeast() {
        for (int lock : new int[] {1, 2, 8, 19, 20}) {
            RollingFob x = learnt(0, 0);
            x.set(2, lock);
            wrong(x, 0, lock - 1);
            check.same("one less does not lock", x.door(0, 2), 0);
            check.same("it opens", x.ifHeard(0, x.fob(0, 3)), 0);
            wrong(x, 0, 1);
            check.same("so many lock", x.door(0, 2), 1);
            check.same("in a row", x.door(0, 1), lock);
            check.same("it does not open", x.press(0, 1), 0);
        }
    }

    /** "at least": more of them lock, too. */
    private static void lockedAboveThat() {
        RollingFob x = new RollingFob();
        x.set(2, 20);
        wrong(x, 1, 5);
        x.set(2, 6);
        check.same("5 of 6", x.door(1, 2), 0);
        x.set(2, 5);
        check.same("5 of 5", x.door(1, 2), 1);
        x.set(2, 4);
        check.same("5 of 4", x.door(1, 2), 1);
        x.set(2, 1);
        check.same("5 of 1", x.door(1, 2), 1);
        check.same("one door is locked", x.count(5), 1);
        x.unlock(1);
        check.same("as long as that", x.door(1, 2), 0);
    }

    /** "if that is above 0". */
    private static void settingZeroNeverLocks() {
        RollingFob x = learnt(0, 0);
        x.set(2, 0);
        check.same("0 of 0", x.door(0, 2), 0);
        wrong(x, 0, 30);
        check.same("30 of 0", x.door(0, 2), 0);
        check.same("in a row", x.door(0, 1), 30);
        check.same("it opens", x.press(0, 1), 1);
        check.same("none in a row", x.door(0, 1), 0);
    }

    /** "When a door hears a number, and is not locked, it looks for it". */
    private static void lockedDoorLooksForNothing() {
        RollingFob x = learnt(0, 0);
        x.set(2, 1);
        pressAt(x, 50, 1);
        wrong(x, 0, 1);
        check.same("one in the window", pressAt(x, 1, 1), 0);
        check.same("one to note", pressAt(x, 70, 1), 0);
        check.same("one behind the noted one", pressAt(x, 51, 1), 0);
        check.same("a wrong one", pressAt(x, 5000, 1), 0);
        check.same("one that is sent again", x.again(1, 1), 0);
        check.same("heard while locked", x.door(0, 7), 5);
        check.same("last", x.slot(0, 0, 2), 0);
        check.same("noted", x.slot(0, 0, 3), 50);
        check.same("shut", x.door(0, 0), 0);
        check.same("in a row", x.door(0, 1), 1);
        check.same("opened", x.door(0, 4), 0);
        check.same("noted so far", x.door(0, 5), 1);
        check.same("wrong so far", x.door(0, 6), 1);
        x.unlock(0);
        check.same("the noted one is still known", pressAt(x, 51, 1), 1);
    }

    /** "in the slots from 0 on": a far counter of a lower slot is meant ahead of a near one. */
    private static void slotsFrom0() {
        RollingFob x = learnt(9, 200);
        x.make(1, 9, 299);
        x.learn(0, 1, 1);
        check.same("the 100th of slot 0", x.press(1, 1), 0);
        check.same("slot 0 notes it", x.slot(0, 0, 3), 300);
        check.same("slot 1 stays", x.slot(0, 1, 2), 299);
        x.make(1, 9, 301);
        check.same("none of slot 0, but of slot 1", x.press(1, 1), 1);
        check.same("slot 0 stays", x.slot(0, 0, 3), 300);
        check.same("slot 1 opens", x.slot(0, 1, 2), 302);
    }

    /** "those that are learnt". */
    private static void emptySlotsAreSkipped() {
        RollingFob x = new RollingFob();
        x.learn(0, 3, 2);
        check.same("slot 3 alone", x.press(2, 1), 1);
        x.learn(0, 0, 2);
        x.learn(0, 1, 1);
        x.forget(0, 0);
        check.same("slot 0 is forgotten", x.press(2, 1), 1);
        check.same("slot 3", x.slot(0, 3, 2), 2);
        x.forget(0, 3);
        check.same("both are forgotten", x.press(2, 1), 0);
        check.same("a wrong number", x.door(0, 6), 1);
        x.forget(0, 1);
        check.same("a door that knows none", x.press(1, 1), 0);
        check.same("a wrong number", x.door(0, 6), 2);
    }

    /** "from 1": the last one itself is not behind the last one. */
    private static void lastOneIsNotMeant() {
        RollingFob x = learnt(6, 300);
        check.same("0 behind", pressAt(x, 300, 1), 0);
        check.same("a wrong number", x.door(0, 6), 1);
        check.same("1 behind", pressAt(x, 301, 1), 1);
        check.same("that one, sent again", x.again(0, 1), 0);
        check.same("a wrong number", x.door(0, 6), 2);
    }

    /** "to setting 1 behind the last one". */
    private static void widerWindowEnds() {
        for (int wide : new int[] {17, 100, 499, 500}) {
            RollingFob x = learnt(1, 4000);
            x.set(1, wide);
            check.same("one further", pressAt(x, 4001 + wide, 1), 0);
            check.same("is wrong", x.door(0, 6), 1);
            check.same("is not noted", x.slot(0, 0, 3), -1);
            check.same("the last one", pressAt(x, 4000 + wide, 1), 0);
            check.same("is noted", x.slot(0, 0, 3), 4000 + wide);
            check.same("is not wrong", x.door(0, 6), 1);
        }
    }

    /** "(behind 9999 comes 0)", in a search. */
    private static void widerWindowBehind9999() {
        RollingFob x = learnt(77, 9999);
        check.same("0 is 1 behind 9999", x.ifHeard(0, Check.number(77, 0)), 0);
        check.same("15 is 16 behind", x.ifHeard(0, Check.number(77, 15)), 0);
        check.same("16 is 17 behind", x.ifHeard(0, Check.number(77, 16)), 1);
        check.same("99 is 100 behind", x.ifHeard(0, Check.number(77, 99)), 1);
        check.same("100 is 101 behind", x.ifHeard(0, Check.number(77, 100)), 2);
        x.set(1, 500);
        check.same("499 is 500 behind", x.ifHeard(0, Check.number(77, 499)), 1);
        check.same("500 is 501 behind", x.ifHeard(0, Check.number(77, 500)), 2);
        check.same("0 opens", pressAt(x, 0, 1), 1);
        check.same("last", x.slot(0, 0, 2), 0);
    }

    /** A counter ahead of the last one is too old, also across 9999. */
    private static void oneAheadOf0IsTooOld() {
        RollingFob x = learnt(77, 0);
        check.same("9999 is ahead of 0", pressAt(x, 9999, 1), 0);
        check.same("a wrong number", x.door(0, 6), 1);
        check.same("0 itself", pressAt(x, 0, 1), 0);
        check.same("a wrong number", x.door(0, 6), 2);
        check.same("1", pressAt(x, 1, 1), 1);
    }

    /** "from the nearest on. The first one that has this number is meant." */
    private static void nearestOn() {
        check.same("two of one number, 16 apart", Check.number(0, 4088), Check.number(0, 4104));
        RollingFob x = learnt(0, 4087);
        check.same("17 behind, but also 1 behind", pressAt(x, 4104, 1), 1);
        check.same("the nearest", x.slot(0, 0, 2), 4088);
        check.same("the other one is 16 behind that", x.again(0, 1), 1);
        check.same("last", x.slot(0, 0, 2), 4104);
        RollingFob y = learnt(0, 4088);
        check.same("the last one's number is also one ahead", pressAt(y, 4088, 1), 1);
        check.same("last", y.slot(0, 0, 2), 4104);
    }

    /** "If none is meant, the door has one wrong number more." */
    private static void noneIsMeant() {
        RollingFob x = learnt(0, 0);
        pressAt(x, 40, 1);
        pressAt(x, 2000, 1);
        check.same("in a row", x.door(0, 1), 1);
        check.same("so far", x.door(0, 6), 1);
        pressAt(x, 0, 1);
        check.same("in a row", x.door(0, 1), 2);
        check.same("so far", x.door(0, 6), 2);
        check.same("last stays", x.slot(0, 0, 2), 0);
        check.same("noted stays", x.slot(0, 0, 3), 40);
        check.same("shut", x.door(0, 0), 0);
    }

    /** 0 is a number as any other: that of the secret 0 and the counter 0. */
    private static void number0IsMeant() {
        RollingFob x = learnt(0, 9999);
        check.same("number 0 at a door that knows none", x.ifHeard(1, 0), 2);
        check.same("number 0", x.ifHeard(0, 0), 0);
        check.same("it opens", x.press(0, 1), 1);
        check.same("it is recorded", x.air(0), 0);
        check.same("last", x.slot(0, 0, 2), 0);
    }

    /** "If the one that is meant is at most setting 0 behind the last one, it opens". */
    private static void windowEnds() {
        for (int window : new int[] {1, 2, 16, 63, 64}) {
            RollingFob x = learnt(5, 9950);
            x.set(0, window);
            check.same("one further", pressAt(x, (9951 + window) % 10000, 1), 0);
            check.same("is noted", x.slot(0, 0, 3), (9951 + window) % 10000);
            check.same("the last one", pressAt(x, (9950 + window) % 10000, 1), 1);
            check.same("last", x.slot(0, 0, 2), (9950 + window) % 10000);
            check.same("the next one", pressAt(x, (9951 + window) % 10000, 1), 1);
            check.same("noted so far", x.door(0, 5), 1);
            check.same("opened so far", x.door(0, 4), 2);
        }
    }

    /** "the last counter of the slot is this one then, nothing is noted in the slot". */
    private static void openingForgetsTheNoted() {
        RollingFob x = learnt(5, 100);
        pressAt(x, 150, 1);
        check.same("one in the window", pressAt(x, 110, 1), 1);
        check.same("last", x.slot(0, 0, 2), 110);
        check.same("nothing is noted", x.slot(0, 0, 3), -1);
        check.same("behind what was noted", pressAt(x, 151, 1), 0);
        check.same("it is noted", x.slot(0, 0, 3), 151);
        check.same("the one behind that", pressAt(x, 152, 1), 1);
        check.same("last", x.slot(0, 0, 2), 152);
        check.same("nothing is noted", x.slot(0, 0, 3), -1);
    }

    /** "and there are no wrong numbers in a row". */
    private static void openingEndsTheRow() {
        RollingFob x = learnt(5, 100);
        wrong(x, 0, 7);
        check.same("one in the window", pressAt(x, 101, 1), 1);
        check.same("none in a row", x.door(0, 1), 0);
        check.same("so far", x.door(0, 6), 7);
        wrong(x, 0, 7);
        check.same("7 more do not lock", x.door(0, 2), 0);
        pressAt(x, 180, 1);
        check.same("one behind the noted one", pressAt(x, 181, 1), 1);
        check.same("none in a row", x.door(0, 1), 0);
    }

    /** "A door that opens is open, and stays so until it is shut". */
    private static void openDoorStaysOpen() {
        RollingFob x = learnt(5, 100);
        pressAt(x, 101, 1);
        wrong(x, 0, 1);
        pressAt(x, 150, 1);
        x.unlock(0);
        x.forget(0, 0);
        x.learn(0, 0, 1);
        x.set(2, 1);
        wrong(x, 0, 2);
        check.same("open", x.door(0, 0), 1);
        check.same("shut", x.shut(0), 1);
        check.same("not open", x.door(0, 0), 0);
    }

    /** An open door is locked as a shut one is, and is shut though it is locked. */
    private static void openDoorLocks() {
        RollingFob x = learnt(5, 100);
        pressAt(x, 101, 1);
        wrong(x, 0, 8);
        check.same("locked", x.door(0, 2), 1);
        check.same("open", x.door(0, 0), 1);
        check.same("counted as both", x.count(4) * 10 + x.count(5), 11);
        check.same("shut", x.shut(0), 1);
        check.same("still locked", x.door(0, 2), 1);
    }

    /** "it hears numbers all the same". */
    private static void openDoorHears() {
        RollingFob x = learnt(5, 100);
        pressAt(x, 101, 1);
        check.same("it opens again", pressAt(x, 102, 1), 1);
        check.same("opened so far", x.door(0, 4), 2);
        check.same("last", x.slot(0, 0, 2), 102);
        pressAt(x, 150, 1);
        check.same("it notes", x.slot(0, 0, 3), 150);
        pressAt(x, 102, 1);
        check.same("it has wrong numbers", x.door(0, 6), 1);
    }

    /** "Otherwise, if it is just the one behind a noted one of the slot, it opens likewise." */
    private static void justBehindTheNoted() {
        RollingFob x = learnt(5, 100);
        pressAt(x, 117, 1);
        check.same("it is noted", x.slot(0, 0, 3), 117);
        wrong(x, 0, 3);
        check.same("the one behind it", pressAt(x, 118, 1), 1);
        check.same("last", x.slot(0, 0, 2), 118);
        check.same("nothing is noted", x.slot(0, 0, 3), -1);
        check.same("none in a row", x.door(0, 1), 0);
        check.same("opened", x.door(0, 4), 1);
        check.same("noted so far", x.door(0, 5), 1);
        check.same("both are too old then", pressAt(x, 117, 1) + pressAt(x, 118, 1), 0);
    }

    /** "just the one behind": neither itself, nor one ahead of it, nor one further. */
    private static void notJustBehindTheNoted() {
        for (int step : new int[] {-20, -1, 0, 2, 20}) {
            RollingFob x = learnt(5, 100);
            pressAt(x, 150, 1);
            check.same("it does not open", pressAt(x, 150 + step, 1), 0);
            check.same("it is noted in place of what was noted", x.slot(0, 0, 3), 150 + step);
            check.same("noted so far", x.door(0, 5), 2);
            check.same("the one behind the latter", pressAt(x, 151 + step, 1), 1);
        }
    }

    /** The one behind a noted 9999 is 0; nothing noted is not "the one ahead of 0". */
    private static void notedBehind9999() {
        RollingFob x = learnt(5, 9980);
        check.same("0, with nothing noted", pressAt(x, 0, 1), 0);
        check.same("0 is noted", x.slot(0, 0, 3), 0);
        check.same("9999 is noted", pressAt(x, 9999, 1), 0);
        check.same("in place of it", x.slot(0, 0, 3), 9999);
        check.same("0 behind 9999", pressAt(x, 0, 1), 1);
        check.same("last", x.slot(0, 0, 2), 0);
        RollingFob y = learnt(5, 9980);
        pressAt(y, 0, 1);
        check.same("1 behind 0", pressAt(y, 1, 1), 1);
    }

    /** The one behind a noted one must be meant: at the end of the wider window it is none. */
    private static void notedAtTheEnd() {
        RollingFob x = learnt(5, 100);
        pressAt(x, 200, 1);
        check.same("101 behind the last one", pressAt(x, 201, 1), 0);
        check.same("a wrong number", x.door(0, 6), 1);
        check.same("noted stays", x.slot(0, 0, 3), 200);
        x.set(1, 101);
        check.same("within the wider window", pressAt(x, 201, 1), 1);
    }

    /** A noted one stays when the window grows; then the window alone opens. */
    private static void notedComesIntoTheWindow() {
        RollingFob x = learnt(5, 100);
        pressAt(x, 150, 1);
        x.set(0, 50);
        check.same("it is noted still", x.slot(0, 0, 3), 150);
        check.same("it opens now", pressAt(x, 150, 1), 1);
        check.same("nothing is noted", x.slot(0, 0, 3), -1);
    }

    /** A noted one stays when the wider window shrinks, and counts again when that grows. */
    private static void notedOutOfTheWindow() {
        RollingFob x = learnt(5, 100);
        pressAt(x, 150, 1);
        x.set(1, 50);
        check.same("it is noted still", x.slot(0, 0, 3), 150);
        check.same("the one behind it is none", pressAt(x, 151, 1), 0);
        check.same("a wrong number", x.door(0, 6), 1);
        x.set(1, 51);
        check.same("the one behind it opens", pressAt(x, 151, 1), 1);
    }

    /** "a noted one of the slot": each slot of each door has its own. */
    private static void notedBySlotAndDoor() {
        RollingFob x = learnt(5, 100);
        x.learn(1, 0, 0);
        x.make(1, 6, 100);
        x.learn(0, 1, 1);
        pressAt(x, 150, 1);
        x.make(1, 6, 149);
        x.press(1, 1);
        check.same("slot 0", x.slot(0, 0, 3), 150);
        check.same("slot 1", x.slot(0, 1, 3), 150);
        check.same("door 1", x.slot(1, 0, 3), -1);
        check.same("one opens, one notes", pressAt(x, 151, 3), 1);
        check.same("slot 0", x.slot(0, 0, 3), -1);
        check.same("slot 1", x.slot(0, 1, 3), 150);
        check.same("door 1", x.slot(1, 0, 3), 151);
        check.same("slot 1 opens", x.press(1, 1), 1);
    }

    /** "(this is no wrong number, and changes nothing of those)". */
    private static void notedIsNoWrongNumber() {
        RollingFob x = learnt(5, 100);
        wrong(x, 0, 7);
        for (int i = 0; i < 5; i++) {
            pressAt(x, 150 + 2 * i, 1);
        }
        check.same("in a row", x.door(0, 1), 7);
        check.same("so far", x.door(0, 6), 7);
        check.same("not locked", x.door(0, 2), 0);
        check.same("shut", x.door(0, 0), 0);
        wrong(x, 0, 1);
        check.same("the row goes on", x.door(0, 2), 1);
    }

    // ---- The air

    /** "Each number that a fob sends can be heard by some doors, and is recorded in the air". */
    private static void allAreRecorded() {
        RollingFob x = learnt(0, 0);
        x.press(0, 1);
        check.same("one that opens", x.count(6), 1);
        pressAt(x, 50, 1);
        check.same("one that is noted", x.count(6), 2);
        x.press(3, 2);
        check.same("a wrong one", x.count(6), 3);
        x.set(2, 1);
        x.press(3, 2);
        check.same("one for a locked door", x.count(6), 4);
        x.press(3, 0);
        check.same("one for no door", x.count(6), 5);
        check.same("the first one", x.air(4), Check.number(0, 1));
        check.same("the last one", x.air(0), Check.number(3, 3));
    }

    /** "the last 8 numbers are kept there, the latest one being 0". */
    private static void eightAreKept() {
        RollingFob x = new RollingFob();
        for (int i = 1; i <= 12; i++) {
            x.press(0, 0);
            check.same("the latest", x.air(0), Check.number(0, i));
            int oldest = Math.max(1, i - 7);
            check.same("the oldest", x.air(i - oldest), Check.number(0, oldest));
            check.same("none behind it", x.air(i - oldest + 1), -1);
            check.same("recorded", x.count(6), Math.min(i, 8));
        }
    }

    /** A number that is sent twice is recorded twice. */
    private static void theSameTwice() {
        RollingFob x = new RollingFob();
        for (int i = 1; i <= 3; i++) {
            pressAt(x, 5, 0);
            check.same("recorded", x.count(6), i);
        }
        check.same("the same", x.air(0), x.air(2));
    }

    /** "One that is recorded can be sent again, for some doors to hear; this records nothing." */
    private static void sentAgainRecordsNothing() {
        RollingFob x = learnt(0, 0);
        for (int i = 0; i < 8; i++) {
            x.press(0, 0);
        }
        check.same("the oldest opens", x.again(7, 1), 1);
        for (int place = 0; place < 8; place++) {
            check.same("the order stays", x.air(place), Check.number(0, 8 - place));
        }
        check.same("recorded", x.count(6), 8);
        check.same("it can be sent once more", x.again(7, 1), 0);
        check.same("presses", x.count(0), 8);
    }

    /** "for some doors to hear": each set of them, by a press and by a number that is sent again. */
    private static void someDoorsHear() {
        for (int doors = 0; doors < 8; doors++) {
            RollingFob x = new RollingFob();
            x.press(3, doors);
            x.again(0, 7 - doors);
            x.again(0, doors);
            for (int door = 0; door < 3; door++) {
                check.same("wrong numbers of a door", x.door(door, 6), (doors >> door & 1) == 1 ? 2 : 1);
            }
        }
    }

    // ---- Settings

    /** "at first 16", "at first 100", "at first 8". */
    private static void settingsAtFirst() {
        RollingFob x = new RollingFob();
        check.same("the window", x.setting(0), 16);
        check.same("the wider window", x.setting(1), 100);
        check.same("wrong numbers that lock", x.setting(2), 8);
    }

    /** "(if it is less than setting 0, only this counts)". */
    private static void widerLessThanWindow() {
        RollingFob x = learnt(5, 9990);
        x.set(1, 15);
        check.same("15 behind", x.ifHeard(0, Check.number(5, 5)), 0);
        check.same("16 behind", x.ifHeard(0, Check.number(5, 6)), 2);
        check.same("the window stays", x.setting(0), 16);
        check.same("how many unheard", x.unheard(0, 0), 14);
        x.set(0, 64);
        x.set(1, 1);
        check.same("1 behind", x.ifHeard(0, Check.number(5, 9991)), 0);
        check.same("2 behind", x.ifHeard(0, Check.number(5, 9992)), 2);
        check.same("how many unheard", x.unheard(0, 0), 0);
    }

    /** As wide as the window: all that is meant opens, and nothing is noted. */
    private static void widerAsWindow() {
        RollingFob x = learnt(5, 100);
        x.set(1, 16);
        check.same("16 behind", x.ifHeard(0, Check.number(5, 116)), 0);
        check.same("17 behind", x.ifHeard(0, Check.number(5, 117)), 2);
        x.set(1, 17);
        check.same("16 behind", x.ifHeard(0, Check.number(5, 116)), 0);
        check.same("17 behind", x.ifHeard(0, Check.number(5, 117)), 1);
        check.same("18 behind", x.ifHeard(0, Check.number(5, 118)), 2);
    }

    /** Settings are of all doors, and of what is learnt already. */
    private static void settingsCountAtOnce() {
        RollingFob x = new RollingFob();
        x.learn(0, 0, 0);
        x.learn(2, 3, 0);
        x.make(0, 0, 20);
        check.same("17 is noted by both", x.press(0, 5), 0);
        x.set(0, 64);
        x.make(0, 0, 60);
        check.same("61 opens both", x.press(0, 5), 5);
    }

    // ---- Undo

    /** "At most 6 states are saved; the oldest one is dropped first." */
    private static void atMostSix() {
        RollingFob x = new RollingFob();
        for (int i = 1; i <= 7; i++) {
            x.press(0, 0);
            check.same("saved states", x.count(7), Math.min(i, 6));
        }
        for (int left = 5; left >= 0; left--) {
            check.same("undo", x.undo(), left);
            check.same("presses", x.count(0), left + 1);
        }
        check.state("the first one is dropped", x, () -> x.undo());
        check.same("presses", x.count(0), 1);
        x.press(0, 0);
        check.same("saved again", x.count(7), 1);
        check.same("undo", x.undo(), 0);
    }

    /** "(also if it changes nothing)". */
    private static void savedThoughNothingChanges() {
        RollingFob x = new RollingFob();
        x.make(0, 0, 0);
        check.same("make", x.count(7), 1);
        x.battery(0, 100);
        check.same("battery", x.count(7), 2);
        x.forget(0, 0);
        check.same("forget", x.count(7), 3);
        x.shut(0);
        check.same("shut", x.count(7), 4);
        x.unlock(0);
        check.same("unlock", x.count(7), 5);
        x.set(0, 16);
        check.same("set", x.count(7), 6);
        RollingFob y = new RollingFob();
        check.same("play of nothing that is possible", Check.play(y, "r0-"), 0);
        check.same("play", y.count(7), 1);
        y.learn(0, 0, 0);
        y.learn(0, 0, 0);
        check.same("learn", y.count(7), 3);
    }

    /** "but the buffer". */
    private static void bufferIsNotRestored() {
        RollingFob x = new RollingFob();
        Check.write(x, "c0;");
        x.shut(0);
        x.append('c');
        x.undo();
        check.same("what was appended stays", x.firstError(), 4);
        x.append('1');
        check.same("it can be played", x.play(), 2);
        x.undo();
        check.same("what was cleared stays so", x.clearBuffer(), 0);
    }

    /** "also what is counted so far". */
    private static void countsAreRestored() {
        RollingFob x = learnt(0, 0);
        x.set(2, 1);
        x.press(0, 3);
        x.undo();
        for (int what = 0; what < 7; what++) {
            check.same("count", x.count(what), 0);
        }
        for (int what = 4; what < 8; what++) {
            check.same("door", x.door(0, what) + x.door(1, what), 0);
        }
        check.same("presses of the fob", x.fob(0, 4), 0);
        check.sameBits("the share", x.openShare(), 1.0);
        x.press(0, 3);
        x.again(0, 7);
        x.undo();
        check.same("sent again", x.count(1), 0);
        check.same("presses stay", x.count(0), 1);
        check.same("door 1 heard nothing locked", x.door(1, 7), 0);
    }

    /** "saves the state from before it: all": each state is come back to, whatever was called. */
    private static void everythingIsRestored() {
        RollingFob x = new RollingFob();
        backFrom(x, () -> x.learn(0, 0, 0), () -> x.press(0, 7), () -> pressAt(x, 40, 1),
                () -> Check.play(x, "f00;r00;c0;f112"), () -> x.again(1, 7));
        RollingFob y = new RollingFob();
        backFrom(y, () -> y.set(2, 1), () -> y.set(1, 500), () -> y.set(0, 1), () -> y.press(2, 2),
                () -> y.press(2, 2), () -> y.unlock(1));
        RollingFob z = new RollingFob();
        backFrom(z, () -> z.battery(1, 1), () -> z.learn(2, 3, 1), () -> z.press(1, 4), () -> z.shut(2),
                () -> z.forget(2, 3), () -> z.make(1, 1, 0));
        RollingFob w = new RollingFob();
        Check.write(w, "r7");
        backFrom(w, () -> w.press(0, 0), () -> w.press(1, 0), () -> w.press(2, 0), () -> w.press(3, 0),
                () -> w.press(0, 1), () -> w.press(0, 6));
    }

    /** The calls save at most six states, so that the digest holds how many are saved, too. */
    private static void backFrom(RollingFob x, Runnable... calls) {
        long[] before = new long[7];
        before[0] = x.digest();
        for (Runnable call : calls) {
            call.run();
            before[x.count(7)] = x.digest();
        }
        check.holds("some are saved", x.count(7) >= calls.length);
        while (x.count(7) > 0) {
            int left = x.undo();
            check.holds("back to the state of " + left, before[left] == 0 || x.digest() == before[left]);
        }
        check.same("back to the first one", x.digest(), before[0]);
    }

    /** undo itself is not marked "undoable". */
    private static void undoIsNotSaved() {
        RollingFob x = new RollingFob();
        x.battery(0, 1);
        x.battery(0, 2);
        check.same("undo", x.undo(), 1);
        check.same("saved", x.count(7), 1);
        check.same("undo goes on, and not back", x.undo(), 0);
        check.same("battery", x.fob(0, 2), 100);
        x.battery(0, 3);
        x.undo();
        check.same("what was undone is gone", x.fob(0, 2), 100);
    }
}
