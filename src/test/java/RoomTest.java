import java.lang.management.ManagementFactory;

/** The room: 512 calls, the dearest among them, make next to nothing. */
final class RoomTest {
    // What Scenes.open has called already is taken off the 512 calls of an object.
    private static final int CALLS = 496;
    // The room's 7.3 million fields and elements, of 4 bytes or more, are some 57,000 bytes a call.
    private static final long BYTES_A_CALL = 10000;

    public static void main(String[] args) {
        com.sun.management.ThreadMXBean threads =
                (com.sun.management.ThreadMXBean) ManagementFactory.getThreadMXBean();
        CanalLocks warm = Locks.behind(Scenes.open());
        play(warm);
        CanalLocks locks = Locks.behind(Scenes.open());
        long before = threads.getThreadAllocatedBytes(Thread.currentThread().getId());
        play(locks);
        long after = threads.getThreadAllocatedBytes(Thread.currentThread().getId());
        Check.holds(CALLS + " calls make little: " + (after - before) + " bytes",
                after - before < BYTES_A_CALL * CALLS);
        Check.holds("it was the same run", warm.time() == locks.time());
        Check.end();
    }

    private static void play(CanalLocks locks) {
        for (int call = 0; call < CALLS / 16; call++) {
            locks.addBoat('r', 9, true);
            locks.setRain(call % 10);
            locks.advance(200);
            locks.volumeAfter(4, 200);
            locks.minutesUntilEqual(0);
            locks.renderLevels();
            locks.type('w');
            locks.type('a');
            locks.type('i');
            locks.type('t');
            locks.runScript();
            locks.save();
            locks.isConsistent();
            locks.restore();
            locks.setDrain(call % 10);
            locks.undo();
        }
    }
}
