/** Promises 39 to 44: events, totals, checks. */
final class EventsTest {
    public static void main(String[] args) {
        events();
        theLatestEight();
        time();
        meanLevel();
        isConsistent();
        Check.end();
    }

    private static void events() {
        Locks locks = Scenes.open();
        Check.same("39: none", 0, locks.eventCount());
        locks.addBoat('r', 3, true);
        locks.addBoat('g', 7, false);
        Check.same("39: adding is none", 0, locks.eventCount());
        locks.advance(1);
        Check.same("39: two passed", 2, locks.eventCount());
        Check.same("40: passed", 'p', locks.eventKind(0));
        Check.same("41: the gate of the latest", 3, locks.eventNumber(0));
        Check.same("41: the gate before", 0, locks.eventNumber(1));
        locks.advance(1);
        Check.same("41: gates", "p2 p1 p3 p0", Scenes.eventsOf(locks));
        locks.advance(1);
        // The red boat goes 2 to 3 by gate 2, the green one 2 to 1 by gate 1.
        Check.same("41: more gates", "p1 p2 p2 p1 p3 p0", Scenes.eventsOf(locks));
        locks.advance(1);
        Check.same("40: who leaves is not remembered as passing", "l7 l3 p1 p2 p2 p1 p3 p0",
                Scenes.eventsOf(locks));
        Check.same("39: eight", 8, locks.eventCount());
    }

    private static void theLatestEight() {
        Locks locks = Locks.make();
        locks.setRain(8);
        locks.advance(12);
        Check.same("39: nothing is spilled yet", 0, locks.eventCount());
        for (int count = 1; count <= 12; count++) {
            locks.setRain(count % 9 + (count == 1 ? 7 : 0));
            locks.advance(1);
            Check.same("39: at most 8", Math.min(count, count >= 9 ? Math.min(count - 1, 8) : 8),
                    locks.eventCount());
        }
        // Minute 1 had 8 litres and room for 4; minute 9 had no rain.
        Check.same("40: the latest first", "s3 s2 s1 s8 s7 s6 s5 s4", Scenes.eventsOf(locks));
        Check.same("40: spilled", 's', locks.eventKind(7));
        locks.setRain(9);
        locks.advance(200);
        Check.same("41: the same each minute", "s9 s9 s9 s9 s9 s9 s9 s9", Scenes.eventsOf(locks));
    }

    private static void time() {
        Locks locks = Locks.make();
        Check.same("42: at first", 0, locks.time());
        locks.advance(1);
        Check.same("42: a minute", 1, locks.time());
        locks.advance(200);
        Check.same("42: more", 201, locks.time());
        locks.setRain(3);
        locks.addBoat('r', 1, true);
        Check.same("42: other changes take no time", 201, locks.time());
        Scenes.run(locks, "wait 7;wait");
        Check.same("42: scripts", 209, locks.time());
        locks.undo();
        Check.same("42: undo", 201, locks.time());
    }

    private static void meanLevel() {
        Locks locks = Locks.make();
        Check.same("43: at first", 18.0, locks.meanLevel());
        locks.setRain(1);
        locks.advance(1);
        Check.same("43: both converted to float", (double) (685.0f / 38.0f), locks.meanLevel());
        Check.holds("43: not a double's quotient", (double) locks.meanLevel() != 685.0 / 38.0);
        locks.setRain(0);
        locks.setDrain(9);
        for (int valve = 0; valve < 4; valve++) {
            locks.setValve(valve, 3);
        }
        locks.advance(7);
        Check.same("43: later", (double) (622.0f / 38.0f), locks.meanLevel());
    }

    private static void isConsistent() {
        Locks locks = Locks.make();
        Check.holds("44: at first", locks.isConsistent());
        for (int step = 0; step < 60; step++) {
            locks.setRain(step * 7 % 10);
            locks.setDrain(step * 3 % 10);
            locks.setValve(step % 4, step * 5 % 4);
            if (locks.boatCount() < 8) {
                locks.addBoat("rgb".charAt(step % 3), 1 + step % 9, step % 2 == 0);
            }
            locks.advance(1 + step % 9);
            Check.holds("44: step " + step, locks.isConsistent());
        }
        Locks busy = Scenes.open();
        for (int boat = 0; boat < 8; boat++) {
            busy.addBoat('g', 1, boat % 2 == 0);
        }
        for (int minute = 0; minute < 20; minute++) {
            busy.advance(1);
            Check.holds("44: minute " + minute, busy.isConsistent());
        }
    }
}
