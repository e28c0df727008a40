import java.lang.management.ManagementFactory;

/** The room: calls make nothing that stays uncounted, so 512 of the dearest need next to none. */
final class RoomTest {
    private static final int CALLS = 512;
    // An exception, with its trace, takes some hundred bytes; a state of the locks over a thousand.
    private static final long BYTES_A_CALL = 1000;

    public static void main(String[] args) {
        com.sun.management.ThreadMXBean threads =
                (com.sun.management.ThreadMXBean) ManagementFactory.getThreadMXBean();
        CanalLocks warm = Check.open();
        play(warm);
        CanalLocks locks = Check.open();
        long before = threads.getThreadAllocatedBytes(Thread.currentThread().getId());
        play(locks);
        long after = threads.getThreadAllocatedBytes(Thread.currentThread().getId());
        Check.holds("512 calls make little: " + (after - before) + " bytes",
                after - before < BYTES_A_CALL * CALLS);
        Check.holds("it was the same run", warm.time() == locks.time());
        Check.end();
    }

    private static void play(CanalLocks locks) {
        for (int call = 0; call < CALLS / 16; call++) {
            locks.addBoat('r', 9, true);
            locks.setRain(call % 10);
            locks.advance(200);
            locks.volumeAfter(4, 200);
            locks.minutesUntilEqual(0);
            locks.renderLevels();
            locks.type('w');
            locks.type('a');
            locks.type('i');
            locks.type('t');
            locks.runScript();
            locks.save();
            locks.isConsistent();
            locks.restore();
            locks.setDrain(call % 10);
            locks.undo();
        }
    }
}
