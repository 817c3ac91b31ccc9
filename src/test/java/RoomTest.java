import com.sun.management.ThreadMXBean;
import java.lang.management.ManagementFactory;

/** All calls of a run live in one room: an object makes its rows when it is made, and a call makes nothing. */
public final class RoomTest {
    /** An object with 25,000 elements of four bytes at most, and what stands around them. */
    private static final long MOST_OF_AN_OBJECT = 150_000;

    public static void main(String[] args) {
        Check check = new Check("RoomTest");
        ThreadMXBean threads = (ThreadMXBean) ManagementFactory.getThreadMXBean();
        manyCalls(new RiverCompact());

        long start = threads.getCurrentThreadAllocatedBytes();
        RiverCompact x = new RiverCompact();
        long made = threads.getCurrentThreadAllocatedBytes();
        long answers = manyCalls(x);
        long called = threads.getCurrentThreadAllocatedBytes();
        check.isTrue("an object takes " + (made - start) + " bytes", made - start < MOST_OF_AN_OBJECT);
        check.isTrue("the calls take " + (called - made) + " bytes", called - made < 200);
        check.isTrue("they answered", answers != 0);
        check.end();
    }

    private static void feed(RiverCompact x, String words) {
        for (int i = 0; i < words.length(); i++) {
            x.feed(1, words.charAt(i));
        }
    }

    /** Every call at least once, the dearest most often. */
    private static long manyCalls(RiverCompact x) {
        long n = 0;
        for (int i = 0; i < 7; i++) {
            n += x.side(i, 4, 900) + x.salt(i, 40) + x.flood(i, 4, 50) + x.gauge(i, 4, 700) + x.read(i, 4);
        }
        for (int i = 0; i < 15; i++) {
            n += x.hold(i % 6, i % 4, i % 7, 90, i) + x.force(i, 1, 90) + x.holdTold(i, 5) + x.call(i, i);
        }
        for (int i = 0; i < 3; i++) {
            n += x.lake(2 * i, 5000, 900, 20, 60) + x.release(2 * i, 70);
        }
        for (int i = 0; i < 5; i++) {
            feed(x, "may level-(rank+year)*month or not read;cut -state*");
            n += x.text();
            feed(x, "may level-(rank+year)*month or not read;cut -state*9;");
            n += x.text() + x.rule(i % 4, x.count(5) - 1);
        }
        x.sheet(0, 1, 40);
        x.sheet(1, 1, 40);
        for (int i = 0; i < 30; i++) {
            n += x.cell(0, i, i) + x.copy(0, 0, 1, 1, 20) + x.gauges(3, i, 1, 1, 0, 2) + x.taken(i % 15, 1);
            n += x.held(i, 0) + x.dry(63, 90 + i) + x.found(1, i % 7, 50, i) + x.sold(i % 15, i % 7);
            n += x.harm(i % 15, i % 7) + x.unlike(0, 1, i % 4, i % 8) + x.helps(i % 15) + x.side(0, 5, i);
            n += x.says(1, i, 1) + x.takes(1, i, 2) + x.all(1, 0, i) + x.told(1, i, 4) + x.lakeTold(2, i, 4);
            n += x.sharp(i) + x.sum(i % 8) + x.owed(6, i, 900, 3) + x.breaks(6, 900, 3) + x.count(i % 11);
        }
        return n;
    }
}
