import java.util.NoSuchElementException;

/** Promises 39 to 44: events, totals, checks. */
final class EventsTest {
    public static void main(String[] args) {
        events();
        theLatestEight();
        wrongRecencies();
        time();
        meanLevel();
        isConsistent();
        isInconsistent();
        Check.end();
    }

    private static void events() {
        CanalLocks locks = Check.open();
        Check.same("39: none", 0, locks.eventCount());
        locks.addBoat('r', 3, true);
        locks.addBoat('g', 7, false);
        Check.same("39: adding is none", 0, locks.eventCount());
        locks.advance(1);
        Check.same("39: two passed", 2, locks.eventCount());
        Check.same("40: passed", 'p', locks.eventKind(0));
        Check.same("41: the gate of the latest", 3, locks.eventNumber(0));
        Check.same("41: the gate before", 0, locks.eventNumber(1));
        locks.advance(1);
        Check.same("41: gates", "p2 p1 p3 p0", Check.eventsOf(locks));
        locks.advance(1);
        // The red boat goes 2 to 3 by gate 2, the green one 2 to 1 by gate 1.
        Check.same("41: more gates", "p1 p2 p2 p1 p3 p0", Check.eventsOf(locks));
        locks.advance(1);
        Check.same("40: who leaves is not remembered as passing", "l7 l3 p1 p2 p2 p1 p3 p0",
                Check.eventsOf(locks));
        Check.same("39: eight", 8, locks.eventCount());
    }

    private static void theLatestEight() {
        CanalLocks locks = new CanalLocks();
        locks.setRain(8);
        locks.advance(12);
        Check.same("39: nothing is spilled yet", 0, locks.eventCount());
        for (int count = 1; count <= 12; count++) {
            locks.setRain(count % 9 + (count == 1 ? 7 : 0));
            locks.advance(1);
            Check.same("39: at most 8", Math.min(count, count >= 9 ? Math.min(count - 1, 8) : 8),
                    locks.eventCount());
        }
        // Minute 1 had 8 litres and room for 4; minute 9 had no rain.
        Check.same("40: the latest first", "s3 s2 s1 s8 s7 s6 s5 s4", Check.eventsOf(locks));
        Check.same("40: spilled", 's', locks.eventKind(7));
        locks.setRain(9);
        locks.advance(200);
        Check.same("41: the same each minute", "s9 s9 s9 s9 s9 s9 s9 s9", Check.eventsOf(locks));
        // Rain comes before the boats of a minute.
        CanalLocks wet = new CanalLocks();
        wet.setRain(9);
        wet.advance(20);
        Inside.setVolumes(wet, 400, 240, 108, 72, 60);
        wet.openGate(0);
        wet.addBoat('b', 9, true);
        wet.advance(1);
        Check.same("39: spilled, then passed", "p0 s9", Check.eventsOf(wet).substring(0, 5));
    }

    private static void wrongRecencies() {
        CanalLocks locks = Check.open();
        for (int count = 0; count < 3; count++) {
            for (int recency : new int[] {-1, count, count + 1, 8, Integer.MIN_VALUE, Integer.MAX_VALUE}) {
                Check.failsIdly("40: recency " + recency, NoSuchElementException.class, locks,
                        () -> locks.eventKind(recency));
                Check.failsIdly("41: recency " + recency, NoSuchElementException.class, locks,
                        () -> locks.eventNumber(recency));
            }
            locks.addBoat('r', 1, false);
            locks.advance(1);
            locks.shutGate(2 - count);
            locks.undo();
            if (count == 0) {
                locks.shutGate(2);
            }
            locks.shutGate(3);
            locks.openGate(3);
        }
        CanalLocks full = new CanalLocks();
        full.setRain(9);
        full.advance(50);
        for (int recency : new int[] {-1, 8, 9, Integer.MIN_VALUE, Integer.MAX_VALUE}) {
            Check.failsIdly("40: of eight, " + recency, NoSuchElementException.class, full,
                    () -> full.eventKind(recency));
            Check.failsIdly("41: of eight, " + recency, NoSuchElementException.class, full,
                    () -> full.eventNumber(recency));
        }
    }

    private static void time() {
        CanalLocks locks = new CanalLocks();
        Check.same("42: at first", 0, locks.time());
        locks.advance(1);
        Check.same("42: a minute", 1, locks.time());
        locks.advance(200);
        Check.same("42: more", 201, locks.time());
        locks.setRain(3);
        locks.addBoat('r', 1, true);
        Check.same("42: other changes take no time", 201, locks.time());
        Check.run(locks, "wait 7;wait");
        Check.same("42: scripts", 209, locks.time());
        locks.undo();
        Check.same("42: undo", 201, locks.time());
    }

    private static void meanLevel() {
        CanalLocks locks = new CanalLocks();
        Check.same("43: at first", 18.0, locks.meanLevel());
        locks.setRain(1);
        locks.advance(1);
        Check.same("43: both converted to float", (double) (685.0f / 38.0f), locks.meanLevel());
        Check.holds("43: not a double's quotient", (double) locks.meanLevel() != 685.0 / 38.0);
        locks.setRain(0);
        locks.setDrain(9);
        for (int valve = 0; valve < 4; valve++) {
            locks.setValve(valve, 3);
        }
        locks.advance(7);
        Check.same("43: later", (double) (622.0f / 38.0f), locks.meanLevel());
    }

    private static void isConsistent() {
        CanalLocks locks = new CanalLocks();
        Check.holds("44: at first", locks.isConsistent());
        for (int step = 0; step < 60; step++) {
            locks.setRain(step * 7 % 10);
            locks.setDrain(step * 3 % 10);
            locks.setValve(step % 4, step * 5 % 4);
            if (locks.boatCount() < 8) {
                locks.addBoat("rgb".charAt(step % 3), 1 + step % 9, step % 2 == 0);
            }
            locks.advance(1 + step % 9);
            Check.holds("44: step " + step, locks.isConsistent());
        }
        CanalLocks busy = Check.open();
        for (int boat = 0; boat < 8; boat++) {
            busy.addBoat('g', 1, boat % 2 == 0);
        }
        for (int minute = 0; minute < 20; minute++) {
            busy.advance(1);
            Check.holds("44: minute " + minute, busy.isConsistent());
        }
    }

    /** No run of calls brings about what isConsistent looks for, so it is put there. */
    private static void isInconsistent() {
        CanalLocks account = new CanalLocks();
        Inside.setSpilled(account, 1);
        Check.same("22: by the accounts", 683, account.totalVolumeByAccounts());
        Check.holds("44: the accounts do not agree", !account.isConsistent());
        for (int basin = 0; basin < 5; basin++) {
            int[] volumes = {300, 144, 108, 72, 60};
            int limit = 40 * new CanalLocks().area(basin);
            CanalLocks locks = new CanalLocks();
            Inside.setSpilled(locks, volumes[basin] - limit);
            volumes[basin] = limit;
            Inside.setVolumes(locks, volumes);
            Check.holds("44: basin " + basin + " is full", locks.isConsistent());
            Inside.setSpilled(locks, -684 + 300 + 144 + 108 + 72 + 60 - sumBeyond(basin, limit + 1));
            volumes[basin] = limit + 1;
            Inside.setVolumes(locks, volumes);
            Check.same("44: the accounts agree", locks.totalVolume(), locks.totalVolumeByAccounts());
            Check.holds("44: basin " + basin + " is too full", !locks.isConsistent());
        }
        for (int gate = 0; gate < 4; gate++) {
            // Less than no water in the lower basin: more than all of the upper one would flow.
            int[] volumes = {0, 0, 0, 0, 0};
            volumes[gate] = 2;
            for (int basin = gate + 1; basin < 5; basin++) {
                volumes[basin] = -20 * new CanalLocks().area(basin);
            }
            CanalLocks locks = new CanalLocks();
            Inside.setVolumes(locks, volumes);
            Inside.setSpilled(locks, 684 - locks.totalVolume());
            Check.same("44: the accounts agree", locks.totalVolume(), locks.totalVolumeByAccounts());
            for (int other = 0; other < 4; other++) {
                Check.same("44: amounts of gate " + other, other != gate,
                        locks.equalizingAmount(other) == locks.equalizingAmountByLitres(other));
            }
            Check.holds("44: the amounts of gate " + gate + " do not agree", !locks.isConsistent());
        }
        for (int basin = 0; basin < 5; basin++) {
            CanalLocks locks = new CanalLocks();
            for (int boat = 0; boat < 3; boat++) {
                locks.addBoat('r', 1, true);
            }
            Inside.setBasins(locks, basin, basin, 0);
            Check.holds("44: two boats in basin " + basin, locks.isConsistent());
            Inside.setBasins(locks, basin, basin, basin);
            Check.same("44: three boats in basin " + basin, basin == 0 || basin == 4,
                    locks.isConsistent());
        }
    }

    /** How far a basin with this volume is above its first volume. */
    private static int sumBeyond(int basin, int volume) {
        return volume - new CanalLocks().volume(basin);
    }
}
