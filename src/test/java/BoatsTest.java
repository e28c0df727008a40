import java.util.NoSuchElementException;

/** Promises 27 to 38: what the face tells of the boats, and the predictions. */
final class BoatsTest {
    private static final int[] NO_BASINS = {-1, 5, 6, Integer.MIN_VALUE, Integer.MAX_VALUE};

    public static void main(String[] args) {
        counts();
        properties();
        indicesMove();
        boatsIn();
        boatInOrder();
        floats();
        leftTotal();
        wrongBoats();
        minutesUntilLeaving();
        minutesUntilLeavingLate();
        minutesUntilEqual();
        volumeAfter();
        Check.end();
    }

    private static CanalLocks withBoats() {
        CanalLocks locks = new CanalLocks();
        locks.addBoat('b', 9, true);
        locks.addBoat('g', 2, false);
        locks.addBoat('r', 3, true);
        locks.addBoat('b', 1, false);
        locks.addBoat('r', 7, false);
        locks.addBoat('g', 4, true);
        return locks;
    }

    private static void counts() {
        CanalLocks locks = new CanalLocks();
        Check.same("27: none", 0, locks.boatCount());
        for (int count = 1; count <= 8; count++) {
            locks.addBoat('r', 1, true);
            Check.same("27: added", count, locks.boatCount());
        }
        CanalLocks open = Check.open();
        open.addBoat('r', 1, true);
        open.addBoat('r', 1, true);
        open.advance(4);
        Check.same("27: one has left", 1, open.boatCount());
        open.advance(1);
        Check.same("27: both have left", 0, open.boatCount());
    }

    private static void properties() {
        CanalLocks locks = withBoats();
        String colours = "";
        String draughts = "";
        String directions = "";
        for (int boat = 0; boat < 6; boat++) {
            colours += locks.colour(boat);
            draughts += locks.draught(boat);
            directions += locks.isGoingDown(boat) ? "v" : "^";
        }
        Check.same("28: colours", "bgrbrg", colours);
        Check.same("29: draughts", "923174", draughts);
        Check.same("30: directions", "v^v^^v", directions);
        Check.same("31: basins", "0 4 0 4 4 0", Check.basinsOf(locks));
    }

    private static void indicesMove() {
        CanalLocks locks = Check.open();
        locks.addBoat('b', 1, true);
        locks.addBoat('r', 2, true);
        locks.addBoat('g', 3, false);
        locks.addBoat('b', 4, false);
        locks.advance(4);
        Check.same("27: two left", 2, locks.boatCount());
        Check.same("28: colours", "bb", "" + locks.colour(0) + locks.colour(1));
        Check.same("29: draughts", "14", "" + locks.draught(0) + locks.draught(1));
        Check.holds("30: directions", locks.isGoingDown(0) && !locks.isGoingDown(1));
        Check.fails("28: the former last index", IndexOutOfBoundsException.class, () -> locks.colour(2));
        Check.same("2: the next index", 2, locks.addBoat('g', 9, false));
        Check.same("28: the new boat", 'g', locks.colour(2));
        Check.same("29: the new boat", 9, locks.draught(2));
        Check.same("31: the new boat", 4, locks.basinOf(2));
    }

    private static void boatsIn() {
        CanalLocks locks = withBoats();
        Check.same("32: basin 0", 3, locks.boatsIn(0));
        Check.same("32: basin 2", 0, locks.boatsIn(2));
        Check.same("32: basin 4", 3, locks.boatsIn(4));
        CanalLocks open = Check.open();
        open.addBoat('r', 1, true);
        open.addBoat('r', 1, true);
        open.addBoat('r', 1, false);
        open.advance(1);
        Check.same("32: on their way", "1 1 0 1 0", open.boatsIn(0) + " " + open.boatsIn(1) + " "
                + open.boatsIn(2) + " " + open.boatsIn(3) + " " + open.boatsIn(4));
        open.advance(10);
        Check.same("32: all have left", 0, open.boatsIn(0) + open.boatsIn(1) + open.boatsIn(2)
                + open.boatsIn(3) + open.boatsIn(4));
        for (int basin : NO_BASINS) {
            Check.failsIdly("32: basin " + basin, IndexOutOfBoundsException.class, locks,
                    () -> locks.boatsIn(basin));
        }
    }

    private static void boatInOrder() {
        CanalLocks locks = withBoats();
        int[] due = {2, 4, 1, 5, 0, 3};
        for (int rank = 0; rank < 6; rank++) {
            Check.same("33: rank " + rank, due[rank], locks.boatInOrder(rank));
        }
        for (int rank : new int[] {-1, 6, 7, 8, Integer.MIN_VALUE, Integer.MAX_VALUE}) {
            Check.failsIdly("33: rank " + rank, NoSuchElementException.class, locks,
                    () -> locks.boatInOrder(rank));
        }
        CanalLocks none = new CanalLocks();
        Check.failsIdly("33: no boats", NoSuchElementException.class, none, () -> none.boatInOrder(0));
    }

    private static void floats() {
        CanalLocks locks = new CanalLocks();
        locks.addBoat('r', 6, true);
        locks.addBoat('g', 7, false);
        Check.holds("34: exactly as deep", locks.floats(0, 4));
        Check.holds("34: too deep", !locks.floats(1, 4));
        for (int basin = 0; basin < 4; basin++) {
            Check.holds("34: basin " + basin, locks.floats(0, basin) && locks.floats(1, basin));
        }
        locks.setDrain(1);
        locks.advance(1);
        Check.holds("34: a litre less", !locks.floats(0, 4));
        // The exact level counts, not the rounded one: 46 litres in 6 dm^2 carry 7, 47 do not carry 8.
        locks.addBoat('b', 8, true);
        Inside.setVolumes(locks, 300, 144, 108, 47, 59);
        Check.holds("34: 7.83 dm", locks.floats(1, 3) && !locks.floats(2, 3));
        Inside.setVolumes(locks, 300, 144, 108, 48, 59);
        Check.holds("34: 8 dm", locks.floats(2, 3));
        for (int basin : NO_BASINS) {
            Check.failsIdly("34: basin " + basin, IndexOutOfBoundsException.class, locks,
                    () -> locks.floats(0, basin));
            Check.failsIdly("34: neither boat nor basin " + basin, IndexOutOfBoundsException.class, locks,
                    () -> locks.floats(basin, basin));
        }
    }

    private static void leftTotal() {
        CanalLocks locks = Check.open();
        Check.same("35: none yet", 0, locks.leftTotal('r') + locks.leftTotal('g') + locks.leftTotal('b'));
        locks.addBoat('r', 1, true);
        locks.addBoat('g', 1, false);
        locks.addBoat('b', 1, true);
        locks.addBoat('b', 1, false);
        locks.addBoat('b', 1, true);
        locks.addBoat('g', 1, true);
        Check.same("35: all leave", 6, locks.advance(20));
        Check.same("35: by colour", "1 2 3", locks.leftTotal('r') + " " + locks.leftTotal('g') + " "
                + locks.leftTotal('b'));
        for (char colour : new char[] {'R', 'x', 'a', 'c', 'f', 'h', 'q', 's', ' ', (char) 0, (char) 65535}) {
            Check.failsIdly("35: colour " + (int) colour, IllegalArgumentException.class, locks,
                    () -> locks.leftTotal(colour));
        }
    }

    private static void wrongBoats() {
        for (int count = 0; count <= 8; count += 2) {
            CanalLocks locks = new CanalLocks();
            for (int boat = 0; boat < count; boat++) {
                locks.addBoat('r', 1, true);
            }
            Class<IndexOutOfBoundsException> due = IndexOutOfBoundsException.class;
            for (int boat : new int[] {-1, count, count + 1, 8, Integer.MIN_VALUE, Integer.MAX_VALUE}) {
                String what = " boat " + boat + " of " + count;
                Check.failsIdly("28:" + what, due, locks, () -> locks.colour(boat));
                Check.failsIdly("29:" + what, due, locks, () -> locks.draught(boat));
                Check.failsIdly("30:" + what, due, locks, () -> locks.isGoingDown(boat));
                Check.failsIdly("31:" + what, due, locks, () -> locks.basinOf(boat));
                Check.failsIdly("34:" + what, due, locks, () -> locks.floats(boat, 0));
                Check.failsIdly("34: no basin," + what, due, locks, () -> locks.floats(boat, 5));
                Check.failsIdly("36:" + what, due, locks, () -> locks.minutesUntilLeaving(boat));
            }
        }
    }

    private static void minutesUntilLeaving() {
        CanalLocks locks = Check.open();
        locks.addBoat('b', 1, true);
        locks.addBoat('r', 1, true);
        locks.addBoat('g', 1, true);
        locks.addBoat('r', 1, false);
        String before = Check.stateOf(locks);
        int[] due = new int[4];
        for (int boat = 0; boat < 4; boat++) {
            due[boat] = locks.minutesUntilLeaving(boat);
        }
        Check.same("36: changes nothing", before, Check.stateOf(locks));
        Check.same("36: red, green, blue", "4 4", due[1] + " " + due[3]);
        Check.holds("36: the others wait", due[2] > 4 && due[0] > due[2]);
        // Each of them leaves in just that minute.
        for (int minute = 1; minute <= due[0]; minute++) {
            int leaving = 0;
            for (int boat = 0; boat < 4; boat++) {
                leaving += due[boat] == minute ? 1 : 0;
            }
            Check.same("36: in minute " + minute, leaving, locks.advance(1));
        }
        // Boats that come after an undo or a restore are told apart as well.
        CanalLocks again = Check.open();
        again.addBoat('r', 1, true);
        again.save();
        again.addBoat('b', 1, true);
        again.undo();
        again.addBoat('g', 1, true);
        again.addBoat('b', 1, true);
        Check.same("36: after an undo", "4 5 6", again.minutesUntilLeaving(0) + " "
                + again.minutesUntilLeaving(1) + " " + again.minutesUntilLeaving(2));
        again.restore();
        again.addBoat('b', 1, true);
        Check.same("36: after a restore", "4 5", again.minutesUntilLeaving(0) + " "
                + again.minutesUntilLeaving(1));
        CanalLocks typed = Check.open();
        typed.addBoat('r', 1, true);
        Check.run(typed, "boat g1 d");
        typed.addBoat('b', 1, true);
        Check.same("36: after a script", "4 5 6", typed.minutesUntilLeaving(0) + " "
                + typed.minutesUntilLeaving(1) + " " + typed.minutesUntilLeaving(2));
        CanalLocks shut = new CanalLocks();
        shut.addBoat('r', 1, true);
        Check.failsIdly("36: never", NoSuchElementException.class, shut,
                () -> shut.minutesUntilLeaving(0));
    }

    /** All lies dry and fills by drops, so the boat leaves late, in a minute that can be told. */
    private static void minutesUntilLeavingLate() {
        CanalLocks locks = new CanalLocks();
        Inside.setVolumes(locks, 0, 0, 0, 0, 0);
        for (int gate = 0; gate < 4; gate++) {
            locks.openGate(gate);
        }
        locks.setRain(1);
        locks.addBoat('r', 6, true);
        locks.save();
        int minute = 0;
        while (minute < 400 && locks.boatCount() == 1) {
            locks.advance(1);
            minute++;
        }
        Check.holds("36: it leaves after more than 201 minutes", minute > 201 && minute < 400);
        locks.undo();
        Check.same("36: the very next minute", 1, locks.minutesUntilLeaving(0));
        locks.restore();
        locks.advance(minute - 201);
        Check.failsIdly("36: in 201 minutes", NoSuchElementException.class, locks,
                () -> locks.minutesUntilLeaving(0));
        locks.advance(1);
        Check.same("36: in 200 minutes", 200, locks.minutesUntilLeaving(0));
        locks.advance(1);
        Check.same("36: in 199 minutes", 199, locks.minutesUntilLeaving(0));
    }

    private static void minutesUntilEqual() {
        CanalLocks locks = new CanalLocks();
        Class<NoSuchElementException> never = NoSuchElementException.class;
        for (int gate = 0; gate < 4; gate++) {
            int shut = gate;
            Check.failsIdly("37: never", never, locks, () -> locks.minutesUntilEqual(shut));
        }
        locks.setValve(0, 3);
        String before = Check.stateOf(locks);
        Check.same("37: 15 and 7", 2, locks.minutesUntilEqual(0));
        Check.same("37: changes nothing", before, Check.stateOf(locks));
        locks.setValve(0, 1);
        Check.same("37: 5, 5, 5, 5, 2", 5, locks.minutesUntilEqual(0));
        locks.advance(4);
        Check.same("37: a minute", 1, locks.minutesUntilEqual(0));
        locks.advance(1);
        Check.same("37: now", 0, locks.minutesUntilEqual(0));
        Check.same("37: another gate", 0, Check.levelled().minutesUntilEqual(2));
        for (int gate : new int[] {-1, 4, 5, Integer.MIN_VALUE, Integer.MAX_VALUE}) {
            Check.failsIdly("37: gate " + gate, IndexOutOfBoundsException.class, locks,
                    () -> locks.minutesUntilEqual(gate));
        }
        // The first time counts: the drain pulls the basins apart again.
        CanalLocks once = new CanalLocks();
        once.setDrain(9);
        once.setValve(3, 3);
        once.setValve(2, 1);
        int minutes = once.minutesUntilEqual(3);
        once.advance(minutes - 1);
        Check.holds("37: not earlier", once.equalizingAmount(3) > 0);
        once.advance(1);
        Check.same("37: then", 0, once.equalizingAmount(3));
        // The drain lowers basin 4 to 122 litres: 6 * 122 - 10 * 72 = 12 is less than 16.
        CanalLocks slow = new CanalLocks();
        slow.setDrain(1);
        Inside.setVolumes(slow, 300, 144, 108, 72, 319);
        Check.same("37: in 197 minutes", 197, slow.minutesUntilEqual(3));
        Inside.setVolumes(slow, 300, 144, 108, 72, 322);
        Check.same("37: in 200 minutes", 200, slow.minutesUntilEqual(3));
        Inside.setVolumes(slow, 300, 144, 108, 72, 323);
        Check.failsIdly("37: in 201 minutes", never, slow, () -> slow.minutesUntilEqual(3));
    }

    private static void volumeAfter() {
        CanalLocks locks = new CanalLocks();
        locks.setRain(3);
        locks.setDrain(1);
        locks.setValve(0, 2);
        String before = Check.stateOf(locks);
        int[] afterTen = new int[5];
        int[] afterAll = new int[5];
        for (int basin = 0; basin < 5; basin++) {
            Check.same("38: in 0 minutes", locks.volume(basin), locks.volumeAfter(basin, 0));
            afterTen[basin] = locks.volumeAfter(basin, 10);
            afterAll[basin] = locks.volumeAfter(basin, 200);
        }
        Check.same("38: basin 0 in a minute", 293, locks.volumeAfter(0, 1));
        Check.same("38: basin 1 in a minute", 154, locks.volumeAfter(1, 1));
        Check.same("38: basin 4 in 60 minutes", 0, locks.volumeAfter(4, 60));
        Check.same("38: basin 4 in 59 minutes", 1, locks.volumeAfter(4, 59));
        Check.same("38: changes nothing", before, Check.stateOf(locks));
        locks.advance(10);
        for (int basin = 0; basin < 5; basin++) {
            Check.same("38: as it came, basin " + basin, afterTen[basin], locks.volume(basin));
        }
        locks.advance(190);
        for (int basin = 0; basin < 5; basin++) {
            Check.same("38: as it came at last, basin " + basin, afterAll[basin], locks.volume(basin));
        }
        for (int minutes : new int[] {-1, 201, Integer.MIN_VALUE, Integer.MAX_VALUE}) {
            Check.failsIdly("38: minutes " + minutes, IllegalArgumentException.class, locks,
                    () -> locks.volumeAfter(0, minutes));
            for (int basin : NO_BASINS) {
                Check.failsIdly("38: the basin comes first", IndexOutOfBoundsException.class, locks,
                        () -> locks.volumeAfter(basin, minutes));
            }
        }
        for (int basin : NO_BASINS) {
            Check.failsIdly("38: basin " + basin, IndexOutOfBoundsException.class, locks,
                    () -> locks.volumeAfter(basin, 10));
        }
    }
}
