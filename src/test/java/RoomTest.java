import com.sun.management.ThreadMXBean;
import java.lang.management.ManagementFactory;

/** The room that all calls of one run share: 7.3 million fields and elements, of four bytes here. */
public final class RoomTest {
    private static final long ROOM = 7_300_000L * 4;
    private static final int CALLS = 512;

    private static final ThreadMXBean THREADS = (ThreadMXBean) ManagementFactory.getThreadMXBean();
    private static int seen = 0;

    public static void main(String[] args) {
        onlyNewObjects();
        fullRun();
        Check.finish();
    }

    private static long taken() {
        return THREADS.getThreadAllocatedBytes(Thread.currentThread().getId());
    }

    private static void dueRoom(String run, long before) {
        long bytes = taken() - before;
        Check.due(run + " took " + bytes + " bytes, too many", bytes > ROOM / 4, false);
    }

    private static void onlyNewObjects() {
        long before = taken();
        for (int i = 0; i < CALLS; i++) {
            seen += new WordBreaker().size();
        }
        dueRoom("a run of new objects", before);
    }

    private static void fullRun() {
        String text = "abcdefghijklmnopqrstuvwxyz ".repeat(60);
        long[] packed = new long[text.length() / 8];
        for (int i = 0; i < packed.length; i++) {
            packed[i] = Check.packed(text.substring(8 * i, 8 * i + 8));
        }
        long before = taken();
        WordBreaker x = new WordBreaker();
        for (int i = 0; i < CALLS; i++) {
            x.type(packed[i % packed.length], 8);
            int answer = switch (i % 4) {
                case 0 -> x.patterns();
                case 1 -> x.words();
                case 2 -> x.word();
                default -> x.text();
            };
            seen += answer;
        }
        dueRoom("a run of readings", before);
    }
}
