import com.sun.management.ThreadMXBean;
import java.lang.management.ManagementFactory;
import java.util.List;

/** What the dearest objects make in their 512 calls stays far below the room of a run. */
public final class RoomTest {
    /** A tenth of 7.3 million elements of 8 bytes. */
    private static final long MOST_BYTES = 7300000L * 8 / 10;

    public static void main(String[] args) {
        manySnaps();
        long before = made();
        fullOfPlaces();
        Checks.due("bytes for 65536 places", made() - before <= MOST_BYTES, true);
        before = made();
        manySnaps();
        Checks.due("bytes for 255 snaps", made() - before <= MOST_BYTES, true);
        Checks.end();
    }

    private static long made() {
        ThreadMXBean threads = (ThreadMXBean) ManagementFactory.getThreadMXBean();
        return threads.getThreadAllocatedBytes(Thread.currentThread().getId());
    }

    private static void fullOfPlaces() {
        List<int[]> lines = Checks.grid(200, 30);
        for (int h = 30; h < 292; h++) {
            lines.add(Checks.line(-4, 4 * (h % 30), 800, 4 * (h % 30)));
        }
        PixelSnapper snapper = Checks.drawn(lines.toArray(new int[0][]));
        snapper.snap();
        snapper.segment(0, 0, 800, 0);
        for (int call = 0; call < 18; call++) {
            snapIfItCan(snapper);
        }
    }

    private static void manySnaps() {
        PixelSnapper snapper = new PixelSnapper();
        for (int s = 0; s < 255; s++) {
            int at = 4 * (s / 2);
            if (s % 2 == 0) {
                snapper.segment(at, -4, at, 600);
            } else {
                snapper.segment(-4, at, 600, at);
            }
            snapIfItCan(snapper);
        }
    }

    /** A refused snap takes room too. */
    private static boolean snapIfItCan(PixelSnapper snapper) {
        try {
            snapper.snap();
            return true;
        } catch (UnsupportedOperationException tooMuch) {
            return false;
        }
    }
}
