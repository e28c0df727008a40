/**
 * What no run of calls brings about: a lower basin that is higher than the one above it, accounts that
 * do not agree, a crowd in a small basin. The states are put there by the class's private names, so
 * another way to hold the state leaves nothing to test here; no promise depends on it.
 */
final class InsideTest {
    private static final int[] FIRST_VOLUMES = {300, 144, 108, 72, 60};
    private static final int[] AREAS = {10, 6, 6, 6, 10};

    public static void main(String[] args) {
        if (!Inside.isKnown()) {
            System.out.println("skipped: the class holds its state in another way");
            return;
        }
        throughAnOpenGate();
        upwards();
        ranks();
        accounts();
        limits();
        amounts();
        crowds();
        Check.end();
    }

    /** An open gate lets all through at once, more than any valve. */
    private static void throughAnOpenGate() {
        Locks locks = Scenes.later(Scenes.valves(0, 0, 0, 3), 5);
        locks.openGate(3);
        locks.setValve(3, 0);
        Inside.setVolumes(locks, 300, 144, 108, 200, 60);
        Check.same("18: more than a valve lets", 102, locks.flow(3));
        locks.advance(1);
        Check.same("8: more than a valve lets", "300 144 108 98 162", Scenes.volumesOf(locks));
    }

    private static void upwards() {
        Locks locks = Scenes.valves(2, 3, 3, 3);
        Inside.setVolumes(locks, 100, 144, 150, 150, 330);
        Check.same("14: upwards", "52 3 0 30", locks.equalizingAmount(0) + " "
                + locks.equalizingAmount(1) + " " + locks.equalizingAmount(2) + " "
                + locks.equalizingAmount(3));
        Check.same("15: upwards", "52 3 0 30", locks.equalizingAmountByLitres(0) + " "
                + locks.equalizingAmountByLitres(1) + " " + locks.equalizingAmountByLitres(2) + " "
                + locks.equalizingAmountByLitres(3));
        Check.same("18: negative is up", "-10 -3 0 -15", locks.flow(0) + " " + locks.flow(1) + " "
                + locks.flow(2) + " " + locks.flow(3));
        locks.advance(1);
        // Gate 1: 134 and 150 give 8; gate 2: 142 and 150 give 4; gate 3: 146 and 330.
        Check.same("8: water flows up", "110 142 146 161 315", Scenes.volumesOf(locks));
    }

    private static void ranks() {
        Locks locks = Locks.make();
        Inside.setVolumes(locks, 100, 60, 150, 30, 250);
        Check.same("26: by exact level, then by number", "24013", ranksOf(locks));
        Check.holds("13: upwards", locks.isHigher(4, 1) && !locks.isHigher(1, 0));
        Inside.setVolumes(locks, 0, 0, 0, 0, 1);
        Check.same("26: the empty ones by number", "40123", ranksOf(locks));
        Inside.setVolumes(locks, 99, 60, 59, 60, 100);
        Check.same("26: a litre less", "13402", ranksOf(locks));
    }

    private static String ranksOf(Locks locks) {
        return "" + locks.basinByLevel(0) + locks.basinByLevel(1) + locks.basinByLevel(2)
                + locks.basinByLevel(3) + locks.basinByLevel(4);
    }

    private static void accounts() {
        Locks locks = Locks.make();
        Inside.setSpilled(locks, 1);
        Check.same("22: by the accounts", 683, locks.totalVolumeByAccounts());
        Check.holds("44: the accounts do not agree", !locks.isConsistent());
    }

    private static void limits() {
        for (int basin = 0; basin < 5; basin++) {
            int limit = 40 * AREAS[basin];
            Check.holds("44: basin " + basin + " is full", filled(basin, limit).isConsistent());
            Locks over = filled(basin, limit + 1);
            Check.same("44: the accounts agree", over.totalVolume(), over.totalVolumeByAccounts());
            Check.holds("44: basin " + basin + " is too full", !over.isConsistent());
        }
    }

    /** One basin has another volume; the accounts agree with it. */
    private static Locks filled(int basin, int litres) {
        Locks locks = Locks.make();
        int[] volumes = FIRST_VOLUMES.clone();
        volumes[basin] = litres;
        Inside.setVolumes(locks, volumes);
        Inside.setSpilled(locks, FIRST_VOLUMES[basin] - litres);
        return locks;
    }

    private static void amounts() {
        for (int gate = 0; gate < 4; gate++) {
            // Less than no water in the lower basin: more than all of the upper one would flow.
            int[] volumes = {0, 0, 0, 0, 0};
            volumes[gate] = 2;
            for (int basin = gate + 1; basin < 5; basin++) {
                volumes[basin] = -20 * AREAS[basin];
            }
            Locks locks = Locks.make();
            Inside.setVolumes(locks, volumes);
            Inside.setSpilled(locks, 684 - locks.totalVolume());
            Check.same("44: the accounts agree", locks.totalVolume(), locks.totalVolumeByAccounts());
            for (int other = 0; other < 4; other++) {
                Check.same("44: amounts of gate " + other, other != gate,
                        locks.equalizingAmount(other) == locks.equalizingAmountByLitres(other));
            }
            Check.holds("44: the amounts of gate " + gate + " do not agree", !locks.isConsistent());
        }
    }

    private static void crowds() {
        for (int basin = 0; basin < 5; basin++) {
            Locks locks = Locks.make();
            for (int boat = 0; boat < 3; boat++) {
                locks.addBoat('r', 1, true);
            }
            Inside.setBasins(locks, basin, basin, 0);
            Check.holds("44: two boats in basin " + basin, locks.isConsistent());
            Inside.setBasins(locks, basin, basin, basin);
            Check.same("44: three boats in basin " + basin, basin == 0 || basin == 4,
                    locks.isConsistent());
        }
    }
}
