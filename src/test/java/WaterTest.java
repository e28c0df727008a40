/** Promises 9 to 26: what the face tells of the water. */
final class WaterTest {
    public static void main(String[] args) {
        areas();
        volumes();
        levels();
        exactLevels();
        isHigher();
        equalizingAmounts();
        valvesAndGates();
        flow();
        weather();
        totals();
        spilling();
        basinByLevel();
        Check.end();
    }

    private static void areas() {
        Locks locks = Locks.make();
        int[] due = {10, 6, 6, 6, 10};
        for (int basin = 0; basin < 5; basin++) {
            Check.same("9: area of " + basin, due[basin], locks.area(basin));
        }
    }

    private static void volumes() {
        Locks locks = Locks.make();
        Check.same("10: at first", "300 144 108 72 60", Scenes.volumesOf(locks));
        locks.setValve(2, 2);
        locks.setRain(1);
        locks.advance(1);
        Check.same("10: later", "301 144 98 82 60", Scenes.volumesOf(locks));
    }

    private static void levels() {
        Locks locks = Locks.make();
        int[] due = {30, 24, 18, 12, 6};
        for (int basin = 0; basin < 5; basin++) {
            Check.same("11: level of " + basin, due[basin], locks.level(basin));
        }
        locks.setRain(9);
        locks.setDrain(1);
        locks.setValve(1, 1);
        locks.advance(1);
        // 309 / 10, 139 / 6, 113 / 6, 72 / 6, 59 / 10
        int[] later = {30, 23, 18, 12, 5};
        for (int basin = 0; basin < 5; basin++) {
            Check.same("11: rounded down, basin " + basin, later[basin], locks.level(basin));
        }
    }

    private static void exactLevels() {
        Locks locks = Locks.make();
        Check.same("12: a whole level", 24.0, locks.exactLevel(1));
        locks.setRain(9);
        locks.setDrain(1);
        locks.setValve(1, 1);
        locks.advance(1);
        Check.same("12: basin 0", 30.9, locks.exactLevel(0));
        Check.same("12: basin 1", 139.0 / 6.0, locks.exactLevel(1));
        Check.same("12: basin 2", 113.0 / 6.0, locks.exactLevel(2));
        Check.same("12: basin 3", 12.0, locks.exactLevel(3));
        Check.same("12: basin 4", 5.9, locks.exactLevel(4));
    }

    private static void isHigher() {
        Locks locks = Locks.make();
        for (int first = 0; first < 5; first++) {
            for (int second = 0; second < 5; second++) {
                Check.same("13: " + first + " and " + second, first < second,
                        locks.isHigher(first, second));
            }
        }
        // 278 / 10 and 166 / 6: 27.8 and 27.67; the rounded levels are equal.
        locks.setValve(0, 3);
        locks.advance(2);
        Check.same("13: the same rounded level", locks.level(0), locks.level(1));
        Check.holds("13: exactly higher", locks.isHigher(0, 1) && !locks.isHigher(1, 0));
        Locks equal = Locks.make();
        equal.setValve(1, 3);
        equal.advance(2);
        Check.same("13: equal", "126 126", equal.volume(1) + " " + equal.volume(2));
        Check.holds("13: equal is not higher", !equal.isHigher(1, 2) && !equal.isHigher(2, 1));
    }

    private static void equalizingAmounts() {
        Locks locks = Locks.make();
        int[] due = {22, 18, 18, 22};
        for (int gate = 0; gate < 4; gate++) {
            Check.same("14: at first, gate " + gate, due[gate], locks.equalizingAmount(gate));
            Check.same("15: at first, gate " + gate, due[gate], locks.equalizingAmountByLitres(gate));
        }
        for (int seed = 0; seed < 40; seed++) {
            Locks wild = Locks.make();
            for (int step = seed; step < seed + 30; step++) {
                wild.setRain(step * 7 % 10);
                wild.setDrain(step * 3 % 10);
                wild.setValve(step % 4, step * 5 % 4);
                wild.advance(1 + step % 5);
            }
            for (int gate = 0; gate < 4; gate++) {
                compareAmounts(wild, gate);
            }
        }
    }

    /** The greatest amount after which the other basin is not higher, from the volumes alone. */
    private static void compareAmounts(Locks locks, int gate) {
        int upper = locks.volume(gate) * locks.area(gate + 1);
        int lower = locks.volume(gate + 1) * locks.area(gate);
        int greatest = 0;
        while (lower + (greatest + 1) * locks.area(gate) <= upper - (greatest + 1) * locks.area(gate + 1)) {
            greatest++;
        }
        Check.same("14: gate " + gate, greatest, locks.equalizingAmount(gate));
        Check.same("15: gate " + gate, greatest, locks.equalizingAmountByLitres(gate));
    }

    private static void valvesAndGates() {
        Locks locks = Scenes.levelled();
        locks.setValve(0, 1);
        locks.setValve(1, 2);
        locks.setValve(2, 3);
        Check.same("16: openings", "1 2 3 0", locks.opening(0) + " " + locks.opening(1) + " "
                + locks.opening(2) + " " + locks.opening(3));
        locks.openGate(2);
        Check.holds("17: gate 2 alone", !locks.isOpen(0) && !locks.isOpen(1) && locks.isOpen(2)
                && !locks.isOpen(3));
        locks.openGate(0);
        locks.shutGate(2);
        Check.holds("17: gate 0 alone", locks.isOpen(0) && !locks.isOpen(1) && !locks.isOpen(2)
                && !locks.isOpen(3));
    }

    private static void flow() {
        Locks locks = Locks.make();
        for (int gate = 0; gate < 4; gate++) {
            Check.same("18: closed", 0, locks.flow(gate));
            for (int opening = 1; opening < 4; opening++) {
                locks.setValve(gate, opening);
                Check.same("18: opening " + opening, 5 * opening, locks.flow(gate));
            }
            locks.setValve(gate, 0);
        }
        locks.setValve(0, 3);
        locks.advance(1);
        Check.same("18: no more than equalizes", 7, locks.flow(0));
        Check.same("18: for these basins alone", 0, locks.flow(1));
        locks.advance(1);
        Check.same("18: equalized", 0, locks.flow(0));

        Locks gate = Locks.make();
        gate.setValve(1, 3);
        gate.advance(2);
        gate.setValve(1, 0);
        gate.openGate(1);
        gate.setValve(2, 3);
        gate.advance(2);
        Check.same("18: before", "119 103 102", gate.volume(1) + " " + gate.volume(2) + " "
                + gate.volume(3));
        Check.same("18: through an open gate", 8, gate.flow(1));
        gate.setValve(1, 1);
        Check.same("18: the valve of an open gate does not limit it", 8, gate.flow(1));
        gate.shutGate(1);
        Check.same("18: closed again, the valve does", 5, gate.flow(1));
        // Rain and drain belong to the second step, so they do not count.
        Locks wet = Scenes.open();
        wet.setRain(9);
        wet.setDrain(9);
        Check.same("18: without the weather", wet.equalizingAmount(0) + " " + wet.equalizingAmount(3),
                wet.flow(0) + " " + wet.flow(3));
    }

    private static void weather() {
        Locks locks = Locks.make();
        Check.same("19: at first", 0, locks.rain());
        Check.same("20: at first", 0, locks.drain());
        locks.setRain(3);
        locks.setDrain(8);
        Check.same("19: set", 3, locks.rain());
        Check.same("20: set", 8, locks.drain());
    }

    private static void totals() {
        Locks locks = Locks.make();
        Check.same("21: at first", 684, locks.totalVolume());
        Check.same("22: at first", 684, locks.totalVolumeByAccounts());
        locks.setRain(9);
        locks.setDrain(2);
        locks.advance(5);
        Check.same("21: later", 684 + 45 - 10, locks.totalVolume());
        Check.same("22: later", 684 + 45 - 10, locks.totalVolumeByAccounts());
        Check.same("23: rain", 45, locks.rainTotal());
        Check.same("24: drain", 10, locks.drainTotal());
        Check.same("25: spilled", 0, locks.spilledTotal());
        locks.advance(95);
        Check.same("23: with what was spilled", 900, locks.rainTotal());
        Check.same("24: not more than there was", 60, locks.drainTotal());
        Check.same("25: what did not fit", 800, locks.spilledTotal());
        Check.same("21: at last", 400 + 144 + 108 + 72, locks.totalVolume());
        Check.same("22: at last", 400 + 144 + 108 + 72, locks.totalVolumeByAccounts());
    }

    private static void spilling() {
        Locks locks = Locks.make();
        locks.setRain(8);
        locks.advance(13);
        Check.same("25: the first 4 litres", 4, locks.spilledTotal());
        locks.advance(2);
        Check.same("25: summed", 20, locks.spilledTotal());
        Check.same("10: not above the brim", 400, locks.volume(0));
        locks.setValve(0, 3);
        locks.advance(1);
        // Rain first: 8 more are spilled although the valve makes room afterwards.
        Check.same("25: rain comes before flow", 28, locks.spilledTotal());
        Check.same("10: 15 flowed down", 385, locks.volume(0));
    }

    private static void basinByLevel() {
        Locks locks = Locks.make();
        for (int rank = 0; rank < 5; rank++) {
            Check.same("26: at first", rank, locks.basinByLevel(rank));
        }
        locks.setRain(9);
        locks.setValve(0, 3);
        locks.advance(200);
        Check.same("26: equal ones by number", "0 1 2 3 4", ranksOf(locks));
        locks.setValve(0, 0);
        locks.setValve(3, 3);
        locks.setDrain(9);
        locks.advance(200);
        Check.same("26: the empty ones too", "0 1 2 3 4", ranksOf(locks));
    }

    private static String ranksOf(Locks locks) {
        String ranks = "";
        for (int rank = 0; rank < 5; rank++) {
            ranks += (rank == 0 ? "" : " ") + locks.basinByLevel(rank);
        }
        return ranks;
    }
}
