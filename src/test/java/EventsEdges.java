import java.util.NoSuchElementException;
import java.util.function.ObjIntConsumer;

/** The boundary cases of the promises 39 to 44: events, totals, checks. */
final class EventsEdges {
    private static final String NO_EVENT = "Throws `NoSuchElementException` if there is no such event";
    private static final String RECENCY = "- `recency`: 0 for the latest event, 1 for the one before, and"
            + " so on";

    private EventsEdges() {
    }

    static void check() {
        eventCount();
        eventKind();
        eventNumber();
        time();
        meanLevel();
        isConsistent();
    }

    /** So many minutes with spilled water: 1 litre in the first one, 2 in the second one, and so on. */
    private static Locks spilling(int events) {
        Locks locks = Scenes.weathered(5, 0, 20);
        for (int event = 1; event <= events; event++) {
            locks.setRain(1 + (event - 1) % 9);
            locks.advance(1);
        }
        return locks;
    }

    private static void eventCount() {
        Doc.says(39, "Returns the number of remembered events.");
        for (int events : new int[] {0, 1, 7, 8, 9, 16, 17, 40}) {
            Check.same("after " + events, Math.min(events, 8), spilling(events).eventCount());
        }
        Locks undone = spilling(9);
        undone.undo();
        undone.undo();
        Check.same("eight of the eight before", 8, undone.eventCount());
        undone.undo();
        undone.undo();
        Check.same("seven", 7, undone.eventCount());
    }

    private static void eventKind() {
        Doc.says(40, "Returns the kind of a remembered event.");
        Locks locks = Scenes.open();
        locks.addBoat('r', 7, true);
        locks.advance(3);
        Check.same("passed", "ppp", "" + locks.eventKind(0) + locks.eventKind(1) + locks.eventKind(2));
        locks.advance(1);
        Check.same("left", "lp", "" + locks.eventKind(0) + locks.eventKind(1));
        Check.same("spilled", 's', spilling(1).eventKind(0));
        Doc.says(40, "Returns 'p' for a boat that passed a gate, 'l' for a boat that left, 's' for spilled"
                + " water.");
        Check.same("all three kinds", "s1 l2 s1 p2 s1 p1 s1 p0", Scenes.eventsOf(allKinds()));
        Doc.says(40, RECENCY);
        Check.same("0 is the latest one", 'l', locks.eventKind(0));
        Check.same("3 is the first one", 'p', locks.eventKind(3));
        Check.same("7 is the oldest one", 's', spilling(8).eventKind(7));
        noEvent(40, Locks::eventKind);
    }

    /** A boat goes down through the full locks while a litre is spilled each minute. */
    private static Locks allKinds() {
        Locks locks = Scenes.full();
        locks.setRain(1);
        locks.addBoat('g', 2, true);
        locks.advance(5);
        return locks;
    }

    private static void eventNumber() {
        Doc.says(41, "Returns the number that belongs to a remembered event.");
        for (int way = 0; way < 2; way++) {
            for (int draught : new int[] {1, 9}) {
                Locks locks = Scenes.open();
                locks.addBoat('b', draught, way == 0);
                locks.advance(4);
                Check.same("the draught, then the gates", way == 0 ? draught + "210" : draught + "123", ""
                        + locks.eventNumber(0) + locks.eventNumber(1) + locks.eventNumber(2)
                        + locks.eventNumber(3));
            }
        }
        Doc.says(41, "Returns the gate that was passed, the draught of the boat that left, or the number of"
                + " litres that were spilled.");
        Check.same("all three numbers", "s1 l2 s1 p2 s1 p1 s1 p0", Scenes.eventsOf(allKinds()));
        Check.same("a litre", 1, spilling(1).eventNumber(0));
        Check.same("nine litres", 9, spilling(9).eventNumber(0));
        Doc.says(41, RECENCY);
        for (int events : new int[] {1, 7, 8, 9, 16, 17}) {
            Locks locks = spilling(events);
            Check.same("0 is the latest one", 1 + (events - 1) % 9, locks.eventNumber(0));
            int oldest = Math.min(events, 8) - 1;
            Check.same(oldest + " is the oldest one", 1 + (events - 1 - oldest) % 9,
                    locks.eventNumber(oldest));
        }
        noEvent(41, Locks::eventNumber);
    }

    private static void noEvent(int promise, ObjIntConsumer<Locks> call) {
        Doc.says(promise, NO_EVENT);
        int[] counts = {0, 1, 7, 8, 9, 16};
        for (int events : counts) {
            int remembered = Math.min(events, 8);
            if (remembered > 0) {
                call.accept(spilling(events), 0);
                call.accept(spilling(events), remembered - 1);
            }
            Twins.refusesEach("after " + events + ", recency", NoSuchElementException.class,
                    () -> spilling(events), new int[] {-1, remembered, remembered + 1, 8, 9,
                        Integer.MIN_VALUE, Integer.MAX_VALUE}, call);
        }
    }

    private static void time() {
        Doc.says(42, "Returns the time.");
        Check.same("at first", 0, Locks.make().time());
        for (int minutes : new int[] {1, 200}) {
            Check.same("after " + minutes, minutes, Scenes.later(Locks.make(), minutes).time());
        }
        Locks locks = Scenes.later(Locks.make(), 200);
        locks.advance(1);
        Check.same("after 201", 201, locks.time());
        locks.undo();
        Check.same("undone", 200, locks.time());
        locks.undo();
        Check.same("at first again", 0, locks.time());
    }

    private static void meanLevel() {
        Doc.says(43, "Returns the mean level of the basins: the volume of all basins divided by the area of"
                + " all basins, both converted to float.");
        Check.same("a whole number", 18.0, Locks.make().meanLevel());
        for (int rain = 1; rain <= 9; rain++) {
            float due = (684 + rain) / 38.0f;
            Check.same("not rounded down", (double) due, (double) Scenes.weathered(rain, 0, 1).meanLevel());
        }
        Check.holds("a float, not a double", (double) Scenes.weathered(1, 0, 1).meanLevel() != 685 / 38.0);
        Check.same("hardly any water", (double) (13 / 38.0f), (double) Scenes.dry().meanLevel());
        Check.same("full", (double) (1507 / 38.0f), (double) Scenes.full().meanLevel());
    }

    private static void isConsistent() {
        Doc.says(44, "Checks the state: both ways to compute equalizing amounts agree for all gates, both"
                + " ways to compute the volume of all basins agree, no basin contains more than it can, and"
                + " none of the basins 1 to 3 has more than 2 boats.");
        Check.holds("new", Locks.make().isConsistent());
        Check.holds("busy", Scenes.busy().isConsistent());
        Check.holds("dry", Scenes.dry().isConsistent());
        Check.holds("full", Scenes.full().isConsistent());
        Check.holds("just full", Scenes.weathered(5, 0, 20).isConsistent());
        Check.holds("spilled", Scenes.weathered(9, 9, 200).isConsistent());
        Check.holds("eight boats at one end", Scenes.withBoats(8).isConsistent());
        for (int basin = 1; basin <= 3; basin++) {
            Locks locks = Scenes.open();
            locks.shutGate(basin);
            locks.addBoat('r', 1, true);
            locks.addBoat('r', 1, true);
            locks.addBoat('r', 1, true);
            locks.advance(9);
            Check.same("two in basin " + basin, 2, locks.boatsIn(basin));
            Check.holds("two are no more than 2", locks.isConsistent());
        }
    }
}
