/** Promises 10 (set), 21 (setting). */
public final class SettingsTest {
    private static final Check check = new Check("SettingsTest");
    private static final int[] AT_FIRST = {16, 100, 8};
    private static final int[] LEAST = {1, 1, 0};
    private static final int[] MOST = {64, 500, 20};

    public static void main(String[] args) {
        edges();
        wrong();
        check.end();
    }

    private static void edges() {
        for (int setting = 0; setting < 3; setting++) {
            RollingFob x = new RollingFob();
            check.same("at first", x.setting(setting), AT_FIRST[setting]);
            check.same("to the most", x.set(setting, MOST[setting]), AT_FIRST[setting]);
            check.same("most", x.setting(setting), MOST[setting]);
            check.same("to the least", x.set(setting, LEAST[setting]), MOST[setting]);
            check.same("to the same", x.set(setting, LEAST[setting]), LEAST[setting]);
            check.same("least", x.setting(setting), LEAST[setting]);
            check.same("each is saved", x.count(7), 3);
            int other = (setting + 1) % 3;
            check.same("another one stays", x.setting(other), AT_FIRST[other]);
            x.undo();
            x.undo();
            check.same("undone", x.setting(setting), MOST[setting]);
        }
    }

    private static void wrong() {
        RollingFob x = new RollingFob();
        check.index("setting -1", x, () -> x.set(-1, 5));
        check.index("setting 3", x, () -> x.set(3, 5));
        check.index("the setting first", x, () -> x.set(3, -5));
        for (int setting = 0; setting < 3; setting++) {
            int which = setting;
            check.argument("below", x, () -> x.set(which, LEAST[which] - 1));
            check.argument("above", x, () -> x.set(which, MOST[which] + 1));
            check.argument("far below", x, () -> x.set(which, Integer.MIN_VALUE));
            check.argument("far above", x, () -> x.set(which, Integer.MAX_VALUE));
        }
        check.same("nothing is saved", x.count(7), 0);
        check.index("setting -1", x, () -> x.setting(-1));
        check.index("setting 3", x, () -> x.setting(3));
    }
}
