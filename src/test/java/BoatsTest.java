/** Promises 27 to 38: what the face tells of the boats, and the predictions. */
final class BoatsTest {
    public static void main(String[] args) {
        counts();
        properties();
        indicesMove();
        boatsIn();
        boatInOrder();
        floats();
        leftTotal();
        minutesUntilLeaving();
        minutesUntilEqual();
        volumeAfter();
        Check.end();
    }

    private static Locks withBoats() {
        Locks locks = Locks.make();
        locks.addBoat('b', 9, true);
        locks.addBoat('g', 2, false);
        locks.addBoat('r', 3, true);
        locks.addBoat('b', 1, false);
        locks.addBoat('r', 7, false);
        locks.addBoat('g', 4, true);
        return locks;
    }

    private static void counts() {
        Locks locks = Locks.make();
        Check.same("27: none", 0, locks.boatCount());
        for (int count = 1; count <= 8; count++) {
            locks.addBoat('r', 1, true);
            Check.same("27: added", count, locks.boatCount());
        }
        Locks open = Scenes.open();
        open.addBoat('r', 1, true);
        open.addBoat('r', 1, true);
        open.advance(4);
        Check.same("27: one has left", 1, open.boatCount());
        open.advance(1);
        Check.same("27: both have left", 0, open.boatCount());
    }

    private static void properties() {
        Locks locks = withBoats();
        String colours = "";
        String draughts = "";
        String directions = "";
        for (int boat = 0; boat < 6; boat++) {
            colours += locks.colour(boat);
            draughts += locks.draught(boat);
            directions += locks.isGoingDown(boat) ? "v" : "^";
        }
        Check.same("28: colours", "bgrbrg", colours);
        Check.same("29: draughts", "923174", draughts);
        Check.same("30: directions", "v^v^^v", directions);
        Check.same("31: basins", "0 4 0 4 4 0", Scenes.basinsOf(locks));
    }

    private static void indicesMove() {
        Locks locks = Scenes.open();
        locks.addBoat('b', 1, true);
        locks.addBoat('r', 2, true);
        locks.addBoat('g', 3, false);
        locks.addBoat('b', 4, false);
        locks.advance(4);
        Check.same("27: two left", 2, locks.boatCount());
        Check.same("28: colours", "bb", "" + locks.colour(0) + locks.colour(1));
        Check.same("29: draughts", "14", "" + locks.draught(0) + locks.draught(1));
        Check.holds("30: directions", locks.isGoingDown(0) && !locks.isGoingDown(1));
        Check.fails("28: the former last index", IndexOutOfBoundsException.class, () -> locks.colour(2));
        Check.same("2: the next index", 2, locks.addBoat('g', 9, false));
        Check.same("28: the new boat", 'g', locks.colour(2));
        Check.same("29: the new boat", 9, locks.draught(2));
        Check.same("31: the new boat", 4, locks.basinOf(2));
    }

    private static void boatsIn() {
        Locks locks = withBoats();
        Check.same("32: basin 0", 3, locks.boatsIn(0));
        Check.same("32: basin 2", 0, locks.boatsIn(2));
        Check.same("32: basin 4", 3, locks.boatsIn(4));
        Locks open = Scenes.open();
        open.addBoat('r', 1, true);
        open.addBoat('r', 1, true);
        open.addBoat('r', 1, false);
        open.advance(1);
        Check.same("32: on their way", "1 1 0 1 0", open.boatsIn(0) + " " + open.boatsIn(1) + " "
                + open.boatsIn(2) + " " + open.boatsIn(3) + " " + open.boatsIn(4));
        open.advance(10);
        Check.same("32: all have left", 0, open.boatsIn(0) + open.boatsIn(1) + open.boatsIn(2)
                + open.boatsIn(3) + open.boatsIn(4));
    }

    private static void boatInOrder() {
        Locks locks = withBoats();
        int[] due = {2, 4, 1, 5, 0, 3};
        for (int rank = 0; rank < 6; rank++) {
            Check.same("33: rank " + rank, due[rank], locks.boatInOrder(rank));
        }
    }

    private static void floats() {
        Locks locks = Locks.make();
        locks.addBoat('r', 6, true);
        locks.addBoat('g', 7, false);
        Check.holds("34: exactly as deep", locks.floats(0, 4));
        Check.holds("34: too deep", !locks.floats(1, 4));
        for (int basin = 0; basin < 4; basin++) {
            Check.holds("34: basin " + basin, locks.floats(0, basin) && locks.floats(1, basin));
        }
        locks.setDrain(1);
        locks.advance(1);
        Check.holds("34: a litre less", !locks.floats(0, 4));
    }

    private static void leftTotal() {
        Locks locks = Scenes.open();
        Check.same("35: none yet", 0, locks.leftTotal('r') + locks.leftTotal('g') + locks.leftTotal('b'));
        locks.addBoat('r', 1, true);
        locks.addBoat('g', 1, false);
        locks.addBoat('b', 1, true);
        locks.addBoat('b', 1, false);
        locks.addBoat('b', 1, true);
        locks.addBoat('g', 1, true);
        Check.same("35: all leave", 6, locks.advance(20));
        Check.same("35: by colour", "1 2 3", locks.leftTotal('r') + " " + locks.leftTotal('g') + " "
                + locks.leftTotal('b'));
    }

    private static void minutesUntilLeaving() {
        Locks locks = Scenes.open();
        locks.addBoat('b', 1, true);
        locks.addBoat('r', 1, true);
        locks.addBoat('g', 1, true);
        locks.addBoat('r', 1, false);
        String before = Scenes.stateOf(locks);
        int[] due = new int[4];
        for (int boat = 0; boat < 4; boat++) {
            due[boat] = locks.minutesUntilLeaving(boat);
        }
        Check.same("36: changes nothing", before, Scenes.stateOf(locks));
        Check.same("36: red, green, blue", "4 4", due[1] + " " + due[3]);
        Check.holds("36: the others wait", due[2] > 4 && due[0] > due[2]);
        // Each of them leaves in just that minute.
        for (int minute = 1; minute <= due[0]; minute++) {
            int leaving = 0;
            for (int boat = 0; boat < 4; boat++) {
                leaving += due[boat] == minute ? 1 : 0;
            }
            Check.same("36: in minute " + minute, leaving, locks.advance(1));
        }
        // Boats that come after an undo or a restore are told apart as well.
        Locks again = Scenes.open();
        again.addBoat('r', 1, true);
        again.save();
        again.addBoat('b', 1, true);
        again.undo();
        again.addBoat('g', 1, true);
        again.addBoat('b', 1, true);
        Check.same("36: after an undo", "4 5 6", again.minutesUntilLeaving(0) + " "
                + again.minutesUntilLeaving(1) + " " + again.minutesUntilLeaving(2));
        again.restore();
        again.addBoat('b', 1, true);
        Check.same("36: after a restore", "4 5", again.minutesUntilLeaving(0) + " "
                + again.minutesUntilLeaving(1));
        Locks typed = Scenes.open();
        typed.addBoat('r', 1, true);
        Scenes.run(typed, "boat g1 d");
        typed.addBoat('b', 1, true);
        Check.same("36: after a script", "4 5 6", typed.minutesUntilLeaving(0) + " "
                + typed.minutesUntilLeaving(1) + " " + typed.minutesUntilLeaving(2));
    }

    private static void minutesUntilEqual() {
        Locks locks = Locks.make();
        locks.setValve(0, 3);
        String before = Scenes.stateOf(locks);
        Check.same("37: 15 and 7", 2, locks.minutesUntilEqual(0));
        Check.same("37: changes nothing", before, Scenes.stateOf(locks));
        locks.setValve(0, 1);
        Check.same("37: 5, 5, 5, 5, 2", 5, locks.minutesUntilEqual(0));
        locks.advance(4);
        Check.same("37: a minute", 1, locks.minutesUntilEqual(0));
        locks.advance(1);
        Check.same("37: now", 0, locks.minutesUntilEqual(0));
        Check.same("37: another gate", 0, Scenes.levelled().minutesUntilEqual(2));
        // The first time counts: the drain pulls the basins apart again.
        Locks once = Locks.make();
        once.setDrain(9);
        once.setValve(3, 3);
        once.setValve(2, 1);
        int minutes = once.minutesUntilEqual(3);
        once.advance(minutes - 1);
        Check.holds("37: not earlier", once.equalizingAmount(3) > 0);
        once.advance(1);
        Check.same("37: then", 0, once.equalizingAmount(3));
    }

    private static void volumeAfter() {
        Locks locks = Locks.make();
        locks.setRain(3);
        locks.setDrain(1);
        locks.setValve(0, 2);
        String before = Scenes.stateOf(locks);
        int[] afterTen = new int[5];
        int[] afterAll = new int[5];
        for (int basin = 0; basin < 5; basin++) {
            Check.same("38: in 0 minutes", locks.volume(basin), locks.volumeAfter(basin, 0));
            afterTen[basin] = locks.volumeAfter(basin, 10);
            afterAll[basin] = locks.volumeAfter(basin, 200);
        }
        Check.same("38: basin 0 in a minute", 293, locks.volumeAfter(0, 1));
        Check.same("38: basin 1 in a minute", 154, locks.volumeAfter(1, 1));
        Check.same("38: basin 4 in 60 minutes", 0, locks.volumeAfter(4, 60));
        Check.same("38: basin 4 in 59 minutes", 1, locks.volumeAfter(4, 59));
        Check.same("38: changes nothing", before, Scenes.stateOf(locks));
        locks.advance(10);
        for (int basin = 0; basin < 5; basin++) {
            Check.same("38: as it came, basin " + basin, afterTen[basin], locks.volume(basin));
        }
        locks.advance(190);
        for (int basin = 0; basin < 5; basin++) {
            Check.same("38: as it came at last, basin " + basin, afterAll[basin], locks.volume(basin));
        }
    }
}
