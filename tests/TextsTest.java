import java.util.ArrayList;
import java.util.List;

/** Promises 11 (append), 12 (clearBuffer), 13 (firstError), 14 (play). */
public final class TextsTest {
    private static final Check check = new Check("TextsTest");
    private static final List<String> PARTS = parts();

    public static void main(String[] args) {
        append();
        clear();
        errorsByHand();
        errorsOfAllTexts();
        errorsOfAnySign();
        fullBuffer();
        play();
        playStops();
        playSets();
        playWrong();
        check.end();
    }

    /** Every part that the document allows. */
    private static List<String> parts() {
        String[] sets = {"-", "0", "1", "2", "01", "02", "12", "012"};
        List<String> parts = new ArrayList<>();
        for (String set : sets) {
            for (int fob = 0; fob < 4; fob++) {
                parts.add("f" + fob + set);
            }
            for (int place = 0; place < 8; place++) {
                parts.add("r" + place + set);
            }
        }
        for (int door = 0; door < 3; door++) {
            parts.add("c" + door);
        }
        return parts;
    }

    private static boolean beginsAPart(String text) {
        for (String part : PARTS) {
            if (part.startsWith(text)) {
                return true;
            }
        }
        return false;
    }

    private static boolean beginsAText(String text) {
        String[] pieces = text.split(";", -1);
        for (int i = 0; i < pieces.length - 1; i++) {
            if (!PARTS.contains(pieces[i])) {
                return false;
            }
        }
        return beginsAPart(pieces[pieces.length - 1]);
    }

    private static int errorOf(String text) {
        for (int i = 0; i < text.length(); i++) {
            if (!beginsAText(text.substring(0, i + 1))) {
                return i;
            }
        }
        return text.length();
    }

    private static boolean isText(String text) {
        return errorOf(text) == text.length() && PARTS.contains(text.substring(text.lastIndexOf(';') + 1));
    }

    private static void append() {
        RollingFob x = new RollingFob();
        check.argument("code 32", x, () -> x.append(32));
        check.argument("code 127", x, () -> x.append(127));
        check.argument("code -1", x, () -> x.append(-1));
        check.argument("greatest code", x, () -> x.append(Integer.MAX_VALUE));
        check.argument("code 'f' + 65536", x, () -> x.append('f' + 65536));
        check.same("code 33", x.append(33), 1);
        check.same("code 126", x.append(126), 2);
        for (int i = 3; i <= 60; i++) {
            check.same("append", x.append('f'), i);
        }
        check.state("61 characters", x, () -> x.append('f'));
        check.argument("the code first", x, () -> x.append(32));
        check.same("length", x.clearBuffer(), 60);
        check.same("append behind that", x.append('c'), 1);
        check.same("nothing is saved", x.count(7), 0);
    }

    private static void clear() {
        RollingFob x = new RollingFob();
        check.same("empty", x.clearBuffer(), 0);
        Check.write(x, "f0-");
        check.same("three", x.clearBuffer(), 3);
        check.same("empty then", x.clearBuffer(), 0);
        check.same("nothing is saved", x.count(7), 0);
        Check.write(x, "c1");
        check.same("what was there is gone", x.firstError(), 2);
        check.same("played", x.play(), 1);
    }

    private static void error(String text, int due) {
        RollingFob x = new RollingFob();
        Check.write(x, text);
        check.same("firstError of " + text, x.firstError(), due);
        check.same("firstError leaves " + text, x.clearBuffer(), text.length());
    }

    private static void errorsByHand() {
        error("", 0);
        error("f", 1);
        error("f3", 2);
        error("f3-", 3);
        error("f3-;", 4);
        error("f3;", 2);
        error("f4", 1);
        error("r7012", 5);
        error("r8", 1);
        error("c2;c", 4);
        error("c3", 1);
        error("c2-", 2);
        error("c20", 2);
        error("f0--", 3);
        error("f0-0", 3);
        error("f00-", 3);
        error("f000", 3);
        error("f0020", 4);
        error("f010", 3);
        error("f0021", 4);
        error("f003", 3);
        error("f03", 2);
        error(";", 0);
        error("f0-;;", 4);
        error("F0-", 0);
        error("0", 0);
        error("f0-;x;;;", 4);
        error("f0-!f0-", 3);
    }

    /** All texts of up to four of these characters. */
    private static void errorsOfAllTexts() {
        char[] signs = {'f', 'r', 'c', '0', '2', '3', '7', '8', '-', ';', 'g'};
        List<String> texts = new ArrayList<>();
        texts.add("");
        int from = 0;
        for (int length = 1; length <= 4; length++) {
            int to = texts.size();
            for (int i = from; i < to; i++) {
                for (char sign : signs) {
                    texts.add(texts.get(i) + sign);
                }
            }
            from = to;
        }
        errorsOf(texts, "");
    }

    /** Each sign behind each beginning of a part, and behind each part. */
    private static void errorsOfAnySign() {
        List<String> texts = new ArrayList<>();
        for (String part : PARTS) {
            for (char sign = 33; sign <= 126; sign++) {
                for (int length = 0; length <= part.length(); length++) {
                    texts.add(part.substring(0, length) + sign);
                }
            }
        }
        errorsOf(texts, "");
        errorsOf(PARTS, "r012;");
    }

    /** An object is used for at most 512 calls, so that a new one is taken ahead of that. */
    private static void errorsOf(List<String> texts, String ahead) {
        RollingFob x = new RollingFob();
        int calls = 0;
        for (String tail : texts) {
            String text = ahead + tail;
            if (calls > 480) {
                x = new RollingFob();
                calls = 0;
            }
            Check.write(x, text);
            check.same("firstError of " + text, x.firstError(), errorOf(text));
            boolean played = true;
            try {
                x.play();
            } catch (IllegalArgumentException e) {
                played = false;
            }
            check.holds("play of " + text + " is possible or not", played == isText(text));
            calls += text.length() + 3;
        }
    }

    private static void fullBuffer() {
        RollingFob x = new RollingFob();
        StringBuilder text = new StringBuilder();
        for (int i = 0; i < 20; i++) {
            text.append("c0;");
        }
        Check.write(x, text.toString());
        check.same("60 characters, no error", x.firstError(), 60);
        check.argument("not complete", x, () -> x.play());
        text.setLength(59);
        check.same("20 parts", Check.play(x, text.toString()), 20);
        check.same("60 characters", Check.play(x, text.substring(0, 57) + "f0-"), 20);
        StringBuilder full = new StringBuilder();
        for (int i = 0; i < 14; i++) {
            full.append("f0-;");
        }
        full.append("f0-1");
        Check.write(x, full.toString());
        check.same("an error at the last place", x.firstError(), 59);
        x.clearBuffer();
        Check.write(x, full.substring(0, 56) + "f012");
        check.same("60 characters of presses", x.play(), 15);
        check.same("presses", x.count(0), 16);
    }

    private static void play() {
        RollingFob x = new RollingFob();
        x.learn(0, 0, 1);
        x.learn(2, 0, 1);
        x.learn(1, 0, 1);
        check.same("play", Check.play(x, "f102;f1-;r01;c2"), 4);
        check.same("the buffer is cleared", x.firstError(), 0);
        check.same("door 0", x.door(0, 0), 1);
        check.same("door 1", x.slot(1, 0, 2), 2);
        check.same("door 2", x.door(2, 0), 0);
        check.same("it opened", x.door(2, 4), 1);
        check.same("presses", x.fob(1, 4), 2);
        check.same("battery", x.fob(1, 2), 98);
        check.same("air", x.air(0), Check.number(1, 2));
        check.same("air", x.air(1), Check.number(1, 1));
        check.same("sent again", x.count(1), 1);
        check.same("opened by numbers sent again", x.count(3), 1);
        check.same("saved as one call", x.count(7), 4);
        Check.write(x, "f");
        check.same("undo", x.undo(), 3);
        check.same("undo leaves the buffer", x.firstError(), 1);
        check.same("presses are undone", x.count(0), 0);
        check.same("the doors are shut", x.count(4), 0);
        check.same("the air is empty", x.count(6), 0);
    }

    private static void playStops() {
        RollingFob x = new RollingFob();
        x.battery(0, 2);
        check.same("stops at an empty battery", Check.play(x, "f0-;f0-;f0-;f1-"), 2);
        check.same("the buffer is cleared", x.clearBuffer(), 0);
        check.same("presses", x.count(0), 2);
        check.same("stops where no such number is", Check.play(x, "r10;r21;c0"), 1);
        check.same("sent again", x.count(1), 1);
        check.same("stops at the first part", Check.play(x, "f0012"), 0);
        check.same("that is saved, too", x.count(7), 4);
        check.same("undo", x.undo(), 3);
        check.same("undo", x.undo(), 2);
        check.same("undo", x.undo(), 1);
        check.same("presses are undone", x.count(0), 0);
        check.same("numbers of the same text", Check.play(x, "f1-;r0-;r1-"), 2);
    }

    private static void playSets() {
        for (int set = 0; set < 8; set++) {
            RollingFob x = new RollingFob();
            String doors = "";
            for (int door = 0; door < 3; door++) {
                doors += (set >> door & 1) == 1 ? "" + door : "";
            }
            doors = doors.isEmpty() ? "-" : doors;
            check.same("play", Check.play(x, "f3" + doors + ";r0" + doors), 2);
            for (int door = 0; door < 3; door++) {
                check.same("heard by " + door + " of " + doors, x.door(door, 6), (set >> door & 1) * 2);
            }
        }
        RollingFob x = new RollingFob();
        Check.play(x, "f0-;f1-;f2-;f3-;f0-;f1-;f2-;f3-;f2-");
        for (int place = 0; place < 8; place++) {
            x.unlock(0);
            x.learn(0, 0, 3);
            check.same("place " + place, Check.play(x, "r" + place + "0"), 1);
        }
        check.same("all are sent", x.count(1), 8);
        for (int door = 0; door < 3; door++) {
            x.learn(door, 1, 0);
        }
        x.press(0, 7);
        Check.play(x, "c1");
        check.same("door 0 is open", x.door(0, 0), 1);
        check.same("door 1 is shut", x.door(1, 0), 0);
        check.same("door 2 is open", x.door(2, 0), 1);
    }

    private static void playWrong() {
        RollingFob x = new RollingFob();
        String[] texts = {"", "f", "f0", "f0-;", "f0;f0-", "c", "r", "r0", "f0-;r", "c0c0", "f0-;;", "x"};
        for (String text : texts) {
            Check.write(x, text);
            check.argument("play of " + text, x, () -> x.play());
            check.same("the buffer stays", x.clearBuffer(), text.length());
        }
        check.same("nothing is saved", x.count(7), 0);
        check.same("nothing is pressed", x.count(0), 0);
    }
}
