import com.sun.management.ThreadMXBean;
import java.lang.management.ManagementFactory;

/** What a run makes: all calls live in one room, so that an object makes its rows once and no call makes any. */
public final class RoomTest {
    private static final Check check = new Check("RoomTest");
    private static final ThreadMXBean THREADS = (ThreadMXBean) ManagementFactory.getThreadMXBean();
    private static long sum = 0;

    public static void main(String[] args) {
        calls(new RollingFob(), 20);
        RollingFob x = new RollingFob();
        made();
        long before = made();
        calls(x, 480);
        long after = made();
        check.holds("480 calls make " + (after - before) + " bytes", after - before < 4096);
        before = made();
        RollingFob[] objects = new RollingFob[100];
        for (int i = 0; i < objects.length; i++) {
            objects[i] = new RollingFob();
        }
        after = made();
        check.holds("an object is " + (after - before) / 100 + " bytes", (after - before) / 100 < 16384);
        check.holds("the answers are used", sum + objects.length != 0);
        check.end();
    }

    private static long made() {
        return THREADS.getThreadAllocatedBytes(Thread.currentThread().getId());
    }

    private static void calls(RollingFob x, int calls) {
        for (int i = 0; i < calls / 20; i++) {
            sum += x.make(i % 4, i, i) + x.learn(i % 3, i % 4, i % 4) + x.press(i % 4, 7) + x.again(0, 7);
            sum += x.append('f') + x.append('0') + x.append('1') + x.firstError() + x.play() + x.undo();
            sum += x.set(2, i % 20) + x.battery(0, 50) + x.shut(0) + x.unlock(1) + x.opensIn(0, 0);
            sum += x.unheard(0, 0) + x.useful(0) + x.ifHeard(0, 6) + (long) x.openShare() + x.digest();
        }
    }
}
