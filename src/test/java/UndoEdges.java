import java.util.NoSuchElementException;

/** The boundary cases of the promises 52 to 54: undo, save and restore. */
final class UndoEdges {
    private static final Class<NoSuchElementException> ELEMENT = NoSuchElementException.class;

    private UndoEdges() {
    }

    static void check() {
        undo();
        numberOfChanges();
        nothingToUndo();
        save();
        restore();
        nothingAfterwards();
        noSnapshot();
    }

    /** The rain has been set so many times, to 1, 2, .. 9, 0, 1, .. */
    private static Locks rained(int changes) {
        Locks locks = Locks.make();
        for (int change = 1; change <= changes; change++) {
            locks.setRain(change % 10);
        }
        return locks;
    }

    private static void undo() {
        Doc.says(52, "Undoes the latest change that has not been undone.");
        Locks locks = rained(3);
        locks.undo();
        Check.same("the third one", 2, locks.rain());
        locks.undo();
        Check.same("the second one", 1, locks.rain());
        locks.setRain(7);
        locks.undo();
        Check.same("a later one", 1, locks.rain());
        locks.undo();
        Check.same("the first one", 0, locks.rain());
        Twins.covered("a boat that was added", Locks::make, () -> {
            Locks one = Scenes.withBoats(1);
            one.undo();
            return one;
        });
        Twins.covered("boats that have left", Scenes::onTheirWay, () -> {
            Locks left = Scenes.onTheirWay();
            left.advance(4);
            left.undo();
            return left;
        });
    }

    private static void numberOfChanges() {
        Doc.says(52, "Returns the number of changes that can still be undone.");
        for (int changes : new int[] {1, 2, 7, 8, 9, 10, 16, 17, 30}) {
            Locks locks = rained(changes);
            for (int left = Math.min(changes, 8) - 1; left >= 0; left--) {
                Check.same("of " + changes, left, locks.undo());
            }
        }
        // Changes and undos in turn, round and round where the earlier states are kept.
        Locks turns = rained(5);
        for (int turn = 0; turn < 20; turn++) {
            turns.setRain(9);
            turns.setDrain(turn % 10);
            Check.same("one of two", 6, turns.undo());
            Check.same("two of two", 5, turns.undo());
            Check.same("as before", "5 0", turns.rain() + " " + turns.drain());
        }
        // After 8 changes and 3 undos there are 5; 4 more changes make 8 again, not 9.
        Locks again = rained(8);
        again.undo();
        again.undo();
        Check.same("5 are left", 5, again.undo());
        for (int change = 0; change < 4; change++) {
            again.setRain(9);
        }
        for (int left = 7; left >= 0; left--) {
            Check.same("8 at most", left, again.undo());
        }
        Check.same("but the oldest one", 1, again.rain());
    }

    private static void nothingToUndo() {
        Doc.says(52, "Throws `NoSuchElementException` if there is nothing to undo");
        Twins.refuses("a new object", ELEMENT, Locks::make, Locks::undo);
        Check.same("one change", 0, rained(1).undo());
        for (int changes : new int[] {1, 7, 8, 9, 20}) {
            Twins.refuses("all undone of " + changes, ELEMENT, () -> {
                Locks locks = rained(changes);
                for (int undone = 0; undone < Math.min(changes, 8); undone++) {
                    locks.undo();
                }
                return locks;
            }, Locks::undo);
        }
        Twins.refuses("only refused calls", ELEMENT, () -> {
            Locks locks = Locks.make();
            Twins.answer(locks, asking -> asking.setRain(10));
            Twins.answer(locks, asking -> Scenes.run(asking, "wait;shut 0"));
            return locks;
        }, Locks::undo);
        Locks later = rained(1);
        later.undo();
        Check.fails("nothing", ELEMENT, later::undo);
        later.setRain(4);
        Check.same("something again", 0, later.undo());
    }

    private static void save() {
        Doc.says(53, "Takes a snapshot, which replaces an earlier one.");
        Locks locks = rained(1);
        locks.save();
        locks.setRain(2);
        locks.save();
        locks.setRain(3);
        locks.restore();
        Check.same("the later one", 2, locks.rain());
        Twins.look("nothing but the snapshot changes", () -> rained(9), () -> saved(rained(9)),
                Twins::changesOf);
        Twins.covered("nothing but the snapshot changes", Scenes::busy, () -> saved(Scenes.busy()));
        Locks first = saved(Locks.make());
        first.advance(9);
        first.restore();
        Check.same("of a new object", 0, first.time());
        Doc.says(53, "Returns the number of boats.");
        for (int count : new int[] {0, 1, 7, 8}) {
            Check.same("of " + count, count, Scenes.withBoats(count).save());
        }
        Check.same("one after two have left", 1, Scenes.later(Scenes.onTheirWay(), 3).save());
    }

    private static Locks saved(Locks locks) {
        locks.save();
        return locks;
    }

    private static void restore() {
        Doc.says(54, "Restores the snapshot, which is kept.");
        Locks locks = saved(Scenes.onTheirWay());
        String due = Scenes.stateOf(Scenes.onTheirWay());
        for (int round = 0; round < 3; round++) {
            locks.advance(100);
            locks.addBoat('g', 4, true);
            locks.restore();
            Check.same("restored, " + round, due, Scenes.stateOf(locks));
        }
        locks.restore();
        Check.same("restored twice", 3, locks.restore());
        Twins.covered("right after it was taken", Scenes::busy, () -> restored(saved(Scenes.busy())));
        Twins.covered("of eight boats", () -> Scenes.withBoats(8), () -> {
            Locks eight = saved(Scenes.withBoats(8));
            for (int undone = 0; undone < 8; undone++) {
                eight.undo();
            }
            return restored(eight);
        });
        Twins.covered("of no boats", Locks::make, () -> {
            Locks none = saved(Locks.make());
            none.addBoat('r', 1, true);
            return restored(none);
        });
        Doc.says(54, "Returns the number of boats.");
        for (int count : new int[] {0, 1, 7, 8}) {
            Locks boats = saved(Scenes.withBoats(count));
            if (count > 0) {
                boats.undo();
            } else {
                boats.addBoat('r', 1, true);
            }
            Check.same("of " + count, count, boats.restore());
        }
    }

    private static Locks restored(Locks locks) {
        locks.restore();
        return locks;
    }

    private static void nothingAfterwards() {
        Doc.says(54, "Afterwards there is nothing to undo.");
        for (int changes : new int[] {0, 1, 8, 9}) {
            Twins.refuses("after " + changes + " changes", ELEMENT,
                    () -> restored(saved(rained(changes))), Locks::undo);
            Locks locks = saved(Locks.make());
            for (int change = 0; change < changes; change++) {
                locks.setRain(5);
            }
            locks.restore();
            Check.fails("after " + changes + " changes since the snapshot", ELEMENT, locks::undo);
            Check.same("the rain of the snapshot", 0, locks.rain());
            locks.setRain(7);
            locks.setRain(8);
            Check.same("a later change", 1, locks.undo());
            Check.same("the first later change", 0, locks.undo());
            Check.same("as restored", 0, locks.rain());
            Check.fails("nothing before the restore", ELEMENT, locks::undo);
        }
    }

    private static void noSnapshot() {
        Doc.says(54, "Throws `IllegalStateException` if there is no snapshot");
        Class<IllegalStateException> due = IllegalStateException.class;
        Twins.refuses("a new object", due, Locks::make, Locks::restore);
        Twins.refuses("after changes", due, () -> rained(9), Locks::restore);
        Twins.refuses("after an undo", due, () -> {
            Locks locks = rained(9);
            locks.undo();
            return locks;
        }, Locks::restore);
        Check.same("there is one", 0, saved(Locks.make()).restore());
    }
}
