import com.sun.management.ThreadMXBean;
import java.lang.management.ManagementFactory;

/** All calls of a run live in one room: no call makes objects, but for the two slots when first saved in. */
public final class RoomTest {
    private static final ThreadMXBean threads = (ThreadMXBean) ManagementFactory.getThreadMXBean();
    private static final int CALLS = 512;

    public static void main(String[] args) {
        Check check = new Check("RoomTest");
        calls(full());
        long before = threads.getCurrentThreadAllocatedBytes();
        ShuttleDoors x = full();
        long made = threads.getCurrentThreadAllocatedBytes() - before;
        check.holds("a full object has less than 16,000 bytes: " + made, made < 16000);
        before = threads.getCurrentThreadAllocatedBytes();
        long sum = calls(x);
        made = threads.getCurrentThreadAllocatedBytes() - before;
        check.holds("all calls together make less than 8,000 bytes: " + made, made < 8000);
        check.holds("they answered", sum != 0);
        check.end();
    }

    private static ShuttleDoors full() {
        ShuttleDoors x = new ShuttleDoors();
        for (int r = 0; r < 24; r++) {
            x.ride((23 - r) % 6, r % 6, r, r % 4 + 1);
        }
        return x;
    }

    private static long calls(ShuttleDoors x) {
        long sum = 0;
        for (int i = 0; i < CALLS; i++) {
            sum += x.bestMinute(i % 8) + x.mostDelay(i % 6) + x.ifDelayed(i % 6, i % 300, i % 3) + x.fullest();
            sum += x.rider(i % 24, i % 10) + x.vanOf(i % 8, i % 8) + x.flight(i % 6, i % 5) + x.stop(i % 8, 0, i % 4);
            sum += x.count(i % 16) + x.kerb(i) + x.put(0x306130L) + x.fault();
            sum += x.set(0, i % 91) + x.land(i % 6, i) + x.delay(i % 6, i % 300) + x.van(i % 8, i, i % 13);
            sum += x.cancel(0) + x.read() + x.rebook(i % 24, i % 6) + x.cancel(5) + x.ride(i % 6, i % 6, i % 100, 2);
            sum += x.undo() + x.save(i % 2) + x.restore(i % 2) + x.wipe();
        }
        return sum;
    }
}
