import java.lang.management.ManagementFactory;

/** Counts what objects make: a run has room for 7.3 million fields and elements, and calls must not use it up. */
public final class RoomTests {
    // A digit takes 8 bytes, so this is far below a tenth of the room.
    private static final long MOST_BYTES_OF_A_LIFE = 8 * 500000L;
    private static final long MOST_BYTES_OF_A_NEW_OBJECT = 8 * 1000L;

    private static final com.sun.management.ThreadMXBean THREADS =
        (com.sun.management.ThreadMXBean) ManagementFactory.getThreadMXBean();

    private static long made() {
        return THREADS.getThreadAllocatedBytes(Thread.currentThread().getId());
    }

    public static void main(String[] args) {
        life();
        long before = made();
        SignedMill mill = new SignedMill();
        long after = made();
        Due.same("a new object is small", after - before <= MOST_BYTES_OF_A_NEW_OBJECT, true);
        Due.same("put", mill.put(0, 1), true);

        before = made();
        life();
        after = made();
        System.out.println("512 dear calls made " + (after - before) + " bytes");
        Due.same("512 dear calls are small", after - before <= MOST_BYTES_OF_A_LIFE, true);
        Due.end("RoomTests");
    }

    /** Every register grows bit by bit to its longest, and every dear call is made at its longest. */
    private static void life() {
        SignedMill mill = new SignedMill();
        int calls = 0;
        boolean done = true;
        for (int n = 1; n <= 1024; n += 93) {
            for (int r = 0; r < 16; r++) {
                done &= mill.spread(r, 0x9E3779B97F4A7C15L * (r + 1), Math.min(n + 1, 1024));
                calls++;
            }
        }
        done &= mill.put(13, -1) & mill.put(12, 3) & mill.change(11, 0, 7, 2) & mill.shift(10, 0, -46340 / 2);
        calls += 4;
        for (; calls + 8 <= 512; calls += 8) {
            mill.common(15, 0, 11);
            mill.inverse(15, 11, 0);
            mill.modulo(15, 11, 13, 0);
            mill.modulo(15, 0, 12, 10);
            mill.divide(15, 14, 0, 10, true);
            mill.power(15, 12, 41348);
            mill.logic(15, 0, 11, 2);
            mill.times(15, 10, 12);
        }
        Due.same("the dear calls' rows", done, true);
    }
}
