import java.util.ArrayDeque;
import java.util.ArrayList;
import java.util.Deque;
import java.util.List;

/** The document's words once more, with the Java library and without regard to room: what RollingFob is held against. */
final class Model {
    private static final class Slot {
        long secret;
        int last;
        Integer noted;

        Slot(long secret, int last, Integer noted) {
            this.secret = secret;
            this.last = last;
            this.noted = noted;
        }
    }

    private static final class All {
        int[][] fob = {{0, 0, 100, 0}, {1, 0, 100, 0}, {2, 0, 100, 0}, {3, 0, 100, 0}};
        Slot[][] slot = new Slot[3][4];
        boolean[] open = new boolean[3];
        // Wrong numbers in a row, then what door answers for 4 to 7.
        int[][] door = new int[3][5];
        List<Integer> air = new ArrayList<>();
        int[] set = {16, 100, 8};
        int again = 0;
        int openedAgain = 0;

        All copy() {
            All to = new All();
            for (int f = 0; f < 4; f++) {
                to.fob[f] = fob[f].clone();
            }
            for (int d = 0; d < 3; d++) {
                to.open[d] = open[d];
                to.door[d] = door[d].clone();
                for (int s = 0; s < 4; s++) {
                    Slot from = slot[d][s];
                    to.slot[d][s] = from == null ? null : new Slot(from.secret, from.last, from.noted);
                }
            }
            to.air.addAll(air);
            to.set = set.clone();
            to.again = again;
            to.openedAgain = openedAgain;
            return to;
        }

        boolean locked(int d) {
            return set[2] > 0 && door[d][0] >= set[2];
        }

        /** 0 to 3, as ifHeard answers. */
        int hear(int d, int number) {
            if (locked(d)) {
                door[d][4]++;
                return 3;
            }
            for (Slot s : slot[d]) {
                for (int k = 1; s != null && k <= set[1]; k++) {
                    int counter = Math.floorMod(s.last + k, 10000);
                    if (Check.number(s.secret, counter) != number) {
                        continue;
                    }
                    boolean behindNoted = s.noted != null && Math.floorMod(s.noted + 1, 10000) == counter;
                    if (k <= set[0] || behindNoted) {
                        s.last = counter;
                        s.noted = null;
                        door[d][0] = 0;
                        door[d][1]++;
                        open[d] = true;
                        return 0;
                    }
                    s.noted = counter;
                    door[d][2]++;
                    return 1;
                }
            }
            door[d][0]++;
            door[d][3]++;
            return 2;
        }

        int send(int number, int doors) {
            int opened = 0;
            for (int d = 0; d < 3; d++) {
                if ((doors & 1 << d) != 0 && hear(d, number) == 0) {
                    opened += 1 << d;
                }
            }
            return opened;
        }

        int press(int f, int doors) {
            fob[f][2]--;
            fob[f][1] = Math.floorMod(fob[f][1] + 1, 10000);
            fob[f][3]++;
            int number = Check.number(fob[f][0], fob[f][1]);
            air.add(0, number);
            if (air.size() > 8) {
                air.remove(8);
            }
            return send(number, doors);
        }

        int again(int place, int doors) {
            again++;
            int opened = send(air.get(place), doors);
            openedAgain += Integer.bitCount(opened);
            return opened;
        }

        int sum(int of) {
            return door[0][of] + door[1][of] + door[2][of];
        }
    }

    private All all = new All();
    private final Deque<All> saved = new ArrayDeque<>();
    private String buffer = "";

    private static void index(boolean holds) {
        if (!holds) {
            throw new IndexOutOfBoundsException();
        }
    }

    private static void argument(boolean holds) {
        if (!holds) {
            throw new IllegalArgumentException();
        }
    }

    private static void state(boolean holds) {
        if (!holds) {
            throw new IllegalStateException();
        }
    }

    private static boolean in(int value, int least, int most) {
        return value >= least && value <= most;
    }

    private void save() {
        saved.addLast(all.copy());
        if (saved.size() > 6) {
            saved.removeFirst();
        }
    }

    int make(int f, int secret, int counter) {
        index(in(f, 0, 3));
        argument(in(secret, 0, 9999) && in(counter, 0, 9999));
        save();
        int was = all.fob[f][1];
        all.fob[f][0] = secret;
        all.fob[f][1] = counter;
        return was;
    }

    int battery(int f, int battery) {
        index(in(f, 0, 3));
        argument(in(battery, 0, 999));
        save();
        int was = all.fob[f][2];
        all.fob[f][2] = battery;
        return was;
    }

    int press(int f, int doors) {
        index(in(f, 0, 3));
        argument(in(doors, 0, 7));
        state(all.fob[f][2] != 0);
        save();
        return all.press(f, doors);
    }

    int again(int place, int doors) {
        index(in(place, 0, all.air.size() - 1));
        argument(in(doors, 0, 7));
        save();
        return all.again(place, doors);
    }

    int learn(int d, int s, int f) {
        index(in(d, 0, 2) && in(s, 0, 3) && in(f, 0, 3));
        save();
        all.slot[d][s] = new Slot(all.fob[f][0], all.fob[f][1], null);
        return door(d, 3);
    }

    int forget(int d, int s) {
        index(in(d, 0, 2) && in(s, 0, 3));
        save();
        int was = slot(d, s, 0);
        all.slot[d][s] = null;
        return was;
    }

    int shut(int d) {
        index(in(d, 0, 2));
        save();
        int was = door(d, 0);
        all.open[d] = false;
        return was;
    }

    int unlock(int d) {
        index(in(d, 0, 2));
        save();
        int was = all.door[d][0];
        all.door[d][0] = 0;
        return was;
    }

    int set(int setting, int value) {
        index(in(setting, 0, 2));
        argument(setting == 0 ? in(value, 1, 64) : setting == 1 ? in(value, 1, 500) : in(value, 0, 20));
        save();
        int was = all.set[setting];
        all.set[setting] = value;
        return was;
    }

    int append(int code) {
        argument(in(code, 33, 126));
        state(buffer.length() < 60);
        buffer += (char) code;
        return buffer.length();
    }

    int clearBuffer() {
        int was = buffer.length();
        buffer = "";
        return was;
    }

    private static final String SET = "(-|012|01|02|12|0|1|2)";
    private static final String PART = "(f[0-3]" + SET + "|r[0-7]" + SET + "|c[0-2])";
    private static final String BEGUN = "([frc]?|[f][0-3]|[r][0-7])";

    private static boolean begins(String text) {
        return text.matches("(" + PART + ";)*(" + PART + "|" + BEGUN + ")");
    }

    int firstError() {
        int good = 0;
        while (good < buffer.length() && begins(buffer.substring(0, good + 1))) {
            good++;
        }
        return good;
    }

    int play() {
        argument(buffer.matches(PART + "(;" + PART + ")*"));
        save();
        int done = 0;
        for (String part : buffer.split(";")) {
            int which = part.charAt(1) - '0';
            int doors = 0;
            for (int d = 0; d < 3; d++) {
                doors += part.indexOf('0' + d, 2) >= 0 ? 1 << d : 0;
            }
            if (part.startsWith("c")) {
                all.open[which] = false;
            } else if (part.startsWith("f") && all.fob[which][2] > 0) {
                all.press(which, doors);
            } else if (part.startsWith("r") && which < all.air.size()) {
                all.again(which, doors);
            } else {
                break;
            }
            done++;
        }
        buffer = "";
        return done;
    }

    int undo() {
        state(!saved.isEmpty());
        all = saved.removeLast();
        return saved.size();
    }

    int fob(int f, int what) {
        index(in(f, 0, 3));
        argument(in(what, 0, 4));
        int[] fob = all.fob[f];
        return what < 3 ? fob[what] : what == 4 ? fob[3] : Check.number(fob[0], (fob[1] + 1) % 10000);
    }

    int slot(int d, int s, int what) {
        index(in(d, 0, 2) && in(s, 0, 3));
        argument(in(what, 0, 3));
        Slot slot = all.slot[d][s];
        if (slot == null) {
            return what == 0 ? 0 : -1;
        }
        int noted = slot.noted == null ? -1 : slot.noted;
        return what == 0 ? 1 : what == 1 ? (int) slot.secret : what == 2 ? slot.last : noted;
    }

    int door(int d, int what) {
        index(in(d, 0, 2));
        argument(in(what, 0, 7));
        int learnt = 0;
        for (Slot slot : all.slot[d]) {
            learnt += slot == null ? 0 : 1;
        }
        int[] numbers = {all.open[d] ? 1 : 0, all.door[d][0], all.locked(d) ? 1 : 0, learnt,
            all.door[d][1], all.door[d][2], all.door[d][3], all.door[d][4]};
        return numbers[what];
    }

    int air(int place) {
        argument(place >= 0);
        return place < all.air.size() ? all.air.get(place) : -1;
    }

    int count(int what) {
        argument(in(what, 0, 7));
        int open = 0;
        int locked = 0;
        for (int d = 0; d < 3; d++) {
            open += all.open[d] ? 1 : 0;
            locked += all.locked(d) ? 1 : 0;
        }
        int presses = all.fob[0][3] + all.fob[1][3] + all.fob[2][3] + all.fob[3][3];
        int[] numbers = {presses, all.again, all.sum(1), all.openedAgain, open, locked, all.air.size(), saved.size()};
        return numbers[what];
    }

    int setting(int setting) {
        index(in(setting, 0, 2));
        return all.set[setting];
    }

    int ifHeard(int d, int number) {
        index(in(d, 0, 2));
        argument(in(number, 0, 65535));
        return all.copy().hear(d, number);
    }

    int opensIn(int f, int d) {
        index(in(f, 0, 3) && in(d, 0, 2));
        All trial = all.copy();
        for (int presses = 1; presses <= 50 && trial.fob[f][2] > 0; presses++) {
            if (trial.press(f, 1 << d) != 0) {
                return presses;
            }
        }
        return -1;
    }

    int unheard(int f, int d) {
        index(in(f, 0, 3) && in(d, 0, 2));
        int lost = 0;
        while (lost < 100 && ifHeard(d, Check.number(all.fob[f][0], (all.fob[f][1] + lost + 1) % 10000)) == 0) {
            lost++;
        }
        return lost - 1;
    }

    int useful(int d) {
        index(in(d, 0, 2));
        for (int place = 0; place < all.air.size(); place++) {
            if (ifHeard(d, all.air.get(place)) == 0) {
                return place;
            }
        }
        return -1;
    }

    double openShare() {
        double opened = all.sum(1);
        double wrong = all.sum(3);
        return opened + wrong == 0 ? 1.0 : opened / (opened + wrong);
    }

    long digest() {
        List<Long> values = new ArrayList<>();
        for (int what = 0; what < 8; what++) {
            values.add((long) count(what));
        }
        for (int setting = 0; setting < 3; setting++) {
            values.add((long) setting(setting));
        }
        for (int f = 0; f < 4; f++) {
            for (int what = 0; what < 5; what++) {
                values.add((long) fob(f, what));
            }
        }
        for (int d = 0; d < 3; d++) {
            for (int what = 0; what < 8; what++) {
                values.add((long) door(d, what));
            }
            for (int s = 0; s < 4; s++) {
                for (int what = 0; what < 4; what++) {
                    values.add((long) slot(d, s, what));
                }
            }
            values.add((long) useful(d));
            for (int f = 0; f < 4; f++) {
                values.add((long) opensIn(f, d));
                values.add((long) unheard(f, d));
            }
        }
        for (int number : all.air) {
            values.add((long) number);
        }
        values.add((long) ifHeard(0, 7919));
        values.add(Double.doubleToLongBits(openShare()));
        values.add((long) buffer.length());
        for (char c : buffer.toCharArray()) {
            values.add((long) c);
        }
        long hash = 3257;
        for (long v : values) {
            hash = 31 * hash + v;
        }
        return hash;
    }
}
