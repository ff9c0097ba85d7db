import com.sun.management.ThreadMXBean;
import java.lang.management.ManagementFactory;

/** The rows are made with the object, and no call makes any: a run's room stays the same however many calls it has. */
public final class RoomTest {
    private static final Check check = new Check("RoomTest");
    private static final ThreadMXBean THREADS = (ThreadMXBean) ManagementFactory.getThreadMXBean();

    public static void main(String[] args) {
        // Once ahead of the counting, so that what the machine loads is not counted.
        calls(new LexerForge(), 3);
        long start = bytes();
        LexerForge forge = new LexerForge();
        long made = bytes() - start;
        check.same("an object takes less than 200,000 bytes, not " + made, true, () -> made < 200_000);
        start = bytes();
        calls(forge, 11);
        long used = bytes() - start;
        check.same("calls take no room, not " + used, true, () -> used < 2_000);
        check.end();
    }

    private static long bytes() {
        return THREADS.getThreadAllocatedBytes(Thread.currentThread().getId());
    }

    private static int fed(LexerForge forge, int first, int second, int size) {
        forge.feed(first, second, 0, 0, 0);
        return forge.trim(size);
    }

    private static void calls(LexerForge forge, int rounds) {
        for (int n = 0; n < rounds; n++) {
            fed(forge, 0x61622b2f, 0x2e2a6363, 8);   // ab+/.*cc
            forge.addRule(n & 1, n & 1, false);
            fed(forge, 0x612a0000, 0, 2);            // a*
            forge.addRule(0, 0, true);
            forge.build();
            for (int k = 0; k < 10; k++) {
                forge.feed(0x61626263, 0x63616262, 0x61616161, 0x63636363, 0x62626363);
            }
            forge.scan();
            forge.words(0, 18);
            forge.shortest(0, 2);
            forge.digest();
            forge.meanLength();
        }
    }
}
