import java.util.NoSuchElementException;

/** Promises 52 to 54: undo, save and restore. */
final class UndoTest {
    public static void main(String[] args) {
        nothingToUndo();
        eachKindOfChange();
        theLatestEight();
        whatIsNoChange();
        afterAnUndo();
        allOfTheState();
        save();
        restore();
        restoreAndUndo();
        Check.end();
    }

    private static void nothingToUndo() {
        Locks locks = Locks.make();
        locks.setRain(3);
        Check.same("52: one", 0, locks.undo());
    }

    private static void eachKindOfChange() {
        String[] scripts = {"boat r3 d", "valve 1 2", "open 2", "shut 0", "rain 5", "drain 6", "wait 9"};
        for (int kind = 0; kind <= scripts.length; kind++) {
            Locks locks = Scenes.levelled();
            locks.openGate(0);
            locks.addBoat('g', 1, false);
            String before = Scenes.stateOf(locks);
            switch (kind) {
                case 0: locks.addBoat('r', 3, true); break;
                case 1: locks.setValve(1, 2); break;
                case 2: locks.openGate(2); break;
                case 3: locks.shutGate(0); break;
                case 4: locks.setRain(5); break;
                case 5: locks.setDrain(6); break;
                case 6: locks.advance(9); break;
                default: Scenes.run(locks, "boat b2 u;valve 3 3;rain 9;drain 9;wait 50"); break;
            }
            Check.holds("52: changed, kind " + kind, !before.equals(Scenes.stateOf(locks)));
            locks.undo();
            Check.same("52: undone, kind " + kind, before, Scenes.stateOf(locks));
            if (kind < scripts.length) {
                Scenes.run(locks, scripts[kind]);
                Check.holds("52: changed by " + scripts[kind], !before.equals(Scenes.stateOf(locks)));
                locks.undo();
                Check.same("52: undone " + scripts[kind], before, Scenes.stateOf(locks));
            }
        }
    }

    private static void theLatestEight() {
        for (int changes = 1; changes <= 20; changes++) {
            Locks locks = Locks.make();
            for (int change = 1; change <= changes; change++) {
                locks.setRain(change % 10);
            }
            int most = Math.min(changes, 8);
            for (int undone = 1; undone <= most; undone++) {
                Check.same("52: still to undo", most - undone, locks.undo());
                Check.same("52: the latest first", (changes - undone) % 10, locks.rain());
            }
            Check.fails("52: no more than 8", NoSuchElementException.class, locks::undo);
        }
    }

    private static void whatIsNoChange() {
        Locks locks = Locks.make();
        locks.setRain(0);
        locks.setDrain(0);
        locks.setValve(0, 0);
        Check.same("52: changes that leave the state as it was", 2, locks.undo());
        locks.addBoat('r', 1, true);
        Check.fails("52: a call that throws", IllegalArgumentException.class, () -> locks.setRain(10));
        Check.fails("52: a call that throws", IllegalArgumentException.class, () -> locks.advance(0));
        Check.fails("52: a call that throws", UnsupportedOperationException.class, () -> locks.openGate(0));
        Check.fails("52: a call that throws", IllegalStateException.class, () -> locks.shutGate(0));
        Check.fails("52: a call that throws", IndexOutOfBoundsException.class, () -> locks.setValve(4, 0));
        Check.fails("52: a script that fails", IllegalStateException.class,
                () -> Scenes.run(locks, "wait;shut 0"));
        Check.fails("52: no script", IllegalArgumentException.class, () -> Scenes.run(locks, "wait;"));
        locks.save();
        locks.renderLevels();
        locks.renderBoat(0);
        locks.volumeAfter(0, 200);
        locks.type('w');
        Check.same("52: all these are no changes", 2, locks.undo());
        Check.same("52: the boat is gone", 0, locks.boatCount());
        Check.same("52: the buffer is not covered", 2, locks.type('a'));
    }

    private static void afterAnUndo() {
        Locks locks = Locks.make();
        for (int rain = 1; rain <= 9; rain++) {
            locks.setRain(rain);
        }
        Check.same("52: seven", 7, locks.undo());
        Check.same("52: six", 6, locks.undo());
        Check.same("52: five", 5, locks.undo());
        Check.same("52: back to 6", 6, locks.rain());
        locks.setRain(0);
        locks.setRain(1);
        for (int left = 6; left >= 0; left--) {
            Check.same("52: still", left, locks.undo());
        }
        Check.same("52: the oldest", 1, locks.rain());
        Check.fails("52: no more", NoSuchElementException.class, locks::undo);
    }

    private static void allOfTheState() {
        Locks locks = Scenes.open();
        locks.setRain(9);
        locks.addBoat('r', 4, true);
        locks.addBoat('b', 2, false);
        locks.addBoat('g', 2, false);
        locks.advance(3);
        String before = Scenes.stateOf(locks);
        locks.advance(1);
        locks.advance(150);
        Scenes.run(locks, "drain 7;wait 99;boat g3 u");
        Check.same("27: two have left, one came", 1, locks.boatCount());
        locks.undo();
        locks.undo();
        locks.undo();
        Check.same("52: all of it", before, Scenes.stateOf(locks));
        Check.same("36: predictions too", 1, locks.minutesUntilLeaving(0));
    }

    private static void save() {
        Locks locks = Locks.make();
        Check.same("53: no boats", 0, locks.save());
        locks.addBoat('r', 1, true);
        locks.addBoat('g', 1, true);
        Check.same("53: two boats", 2, locks.save());
        locks.addBoat('b', 1, true);
        Check.same("53: changes nothing", 3, locks.boatCount());
        Check.same("53: replaced the earlier one", 2, locks.restore());
        locks.setRain(5);
        locks.save();
        locks.undo();
        Check.same("53: undo does not touch the snapshot", 0, locks.rain());
        locks.restore();
        Check.same("53: as it was saved", 5, locks.rain());
    }

    private static void restore() {
        Locks locks = Scenes.open();
        locks.setRain(9);
        locks.addBoat('r', 4, true);
        locks.addBoat('b', 2, false);
        locks.advance(3);
        String saved = Scenes.stateOf(locks);
        Check.same("53: two", 2, locks.save());
        for (int round = 0; round < 3; round++) {
            locks.addBoat('g', 7, true);
            locks.setDrain(9);
            locks.advance(70);
            locks.shutGate(3);
            Check.holds("54: changed", !saved.equals(Scenes.stateOf(locks)));
            Check.same("54: the boats", 2, locks.restore());
            Check.same("54: all of the state", saved, Scenes.stateOf(locks));
        }
        Check.same("54: kept", 2, locks.restore());
    }

    private static void restoreAndUndo() {
        Locks locks = Locks.make();
        locks.setRain(1);
        locks.setRain(2);
        locks.save();
        Check.same("52: save is no change", 1, locks.undo());
        locks.restore();
        Check.same("54: restored", 2, locks.rain());
        locks.setRain(3);
        locks.setRain(4);
        Check.same("54: later changes can be undone", 1, locks.undo());
        Check.same("54: as before", 3, locks.rain());
        Check.same("54: the first of them", 0, locks.undo());
        Check.same("54: as restored", 2, locks.rain());
        Check.fails("54: and no more", NoSuchElementException.class, locks::undo);
    }
}
