import java.util.NoSuchElementException;
import java.util.function.Consumer;
import java.util.function.Function;
import java.util.function.ObjIntConsumer;
import java.util.function.Supplier;

/**
 * Two objects made in the same way, one of which has had a call more: whatever the face can tell of
 * the one has to be what it tells of the other. Each look takes new twins, as some looks change them.
 */
final class Twins {
    private Twins() {
    }

    /** The call throws just this exception, and nothing at all is different afterwards. */
    static void refuses(String what, Class<? extends RuntimeException> due, Supplier<Locks> made,
            Consumer<Locks> call) {
        Supplier<Locks> refused = () -> {
            Locks locks = made.get();
            Check.fails(what, due, () -> call.accept(locks));
            return locks;
        };
        alike(what + ", refused", made, refused);
    }

    static void refusesEach(String what, Class<? extends RuntimeException> due, Supplier<Locks> made,
            int[] values, ObjIntConsumer<Locks> call) {
        for (int value : values) {
            refuses(what + " " + value, due, made, locks -> call.accept(locks, value));
        }
    }

    /** A call that only asks leaves all as it was. */
    static void changesNothing(String what, Supplier<Locks> made, Consumer<Locks> call) {
        alike(what, made, () -> {
            Locks locks = made.get();
            call.accept(locks);
            return locks;
        });
    }

    /** The face tells the same of both, whatever it is asked. */
    static void alike(String what, Supplier<Locks> due, Supplier<Locks> got) {
        covered(what, due, got);
        look(what + ": the changes that can be undone", due, got, Twins::changesOf);
        look(what + ": the script", due, got, Twins::scriptOf);
        look(what + ": the output text", due, got, Twins::outputOf);
        look(what + ": the snapshot", due, got, Twins::snapshotOf);
    }

    /** The face tells the same of all that undo and the snapshot cover. */
    static void covered(String what, Supplier<Locks> due, Supplier<Locks> got) {
        look(what + ": the state", due, got, Scenes::stateOf);
        look(what + ": what the state tells", due, got, Twins::answersOf);
        look(what + ": the predictions", due, got, Twins::predictionsOf);
        look(what + ": the next minutes", due, got, Twins::futureOf);
    }

    /** What the look tells of both is the same. */
    static void look(String what, Supplier<Locks> due, Supplier<Locks> got,
            Function<Locks, String> look) {
        Check.same(what, look.apply(due.get()), look.apply(got.get()));
    }

    static String answersOf(Locks locks) {
        StringBuilder text = new StringBuilder();
        for (int basin = 0; basin < 5; basin++) {
            text.append(locks.area(basin)).append(' ').append(locks.level(basin)).append(' ');
            text.append(locks.exactLevel(basin)).append(' ').append(locks.boatsIn(basin)).append(' ');
            text.append(locks.basinByLevel(basin)).append(' ');
        }
        for (int gate = 0; gate < 4; gate++) {
            text.append(locks.equalizingAmount(gate)).append(' ');
            text.append(locks.equalizingAmountByLitres(gate)).append(' ');
            text.append(locks.flow(gate)).append(locks.isHigher(gate, gate + 1)).append(' ');
        }
        for (int boat = 0; boat < locks.boatCount(); boat++) {
            text.append(locks.boatInOrder(boat)).append(locks.floats(boat, 4)).append(' ');
        }
        return text.append(locks.totalVolume()).append(' ').append(locks.totalVolumeByAccounts())
                .append(' ').append(locks.meanLevel()).append(locks.isConsistent()).toString();
    }

    static String predictionsOf(Locks locks) {
        StringBuilder text = new StringBuilder();
        for (int boat = 0; boat < locks.boatCount(); boat++) {
            int asked = boat;
            text.append(answer(locks, asking -> asking.minutesUntilLeaving(asked))).append(' ');
        }
        for (int gate = 0; gate < 4; gate++) {
            int asked = gate;
            text.append(answer(locks, asking -> asking.minutesUntilEqual(asked))).append(' ');
        }
        for (int basin = 0; basin < 5; basin++) {
            text.append(locks.volumeAfter(basin, 1)).append(' ');
            text.append(locks.volumeAfter(basin, 200)).append(' ');
        }
        return text.toString();
    }

    private static String futureOf(Locks locks) {
        return locks.advance(1) + " " + Scenes.stateOf(locks) + "\n" + locks.advance(7) + " "
                + Scenes.stateOf(locks);
    }

    static String changesOf(Locks locks) {
        StringBuilder text = new StringBuilder();
        String left = answer(locks, Locks::undo);
        while (!left.endsWith("Exception")) {
            text.append(left).append(" then ").append(briefStateOf(locks)).append('\n');
            left = answer(locks, Locks::undo);
        }
        return text.append(left).toString();
    }

    private static String briefStateOf(Locks locks) {
        StringBuilder text = new StringBuilder();
        text.append(locks.time()).append(" volumes ").append(Scenes.volumesOf(locks)).append(' ');
        for (int gate = 0; gate < 4; gate++) {
            text.append(locks.opening(gate)).append(locks.isOpen(gate)).append(' ');
        }
        text.append(locks.rain()).append(' ').append(locks.drain()).append(' ');
        text.append(locks.drainTotal()).append(' ').append(locks.spilledTotal()).append(' ');
        return text.append(Scenes.basinsOf(locks)).append(" events ").append(locks.eventCount()).toString();
    }

    /** The buffer's text by what becomes of it; the two positions before and after that. */
    static String scriptOf(Locks locks) {
        return positionsOf(locks) + " typed " + answer(locks, asking -> asking.type('5')) + " ran "
                + answer(locks, Locks::runScript) + " " + locks.time() + " " + locks.rain() + " "
                + locks.boatCount() + " then " + positionsOf(locks);
    }

    private static String positionsOf(Locks locks) {
        return answer(locks, Locks::errorPosition) + " " + answer(locks, Locks::failedCommand);
    }

    static String outputOf(Locks locks) {
        StringBuilder text = new StringBuilder();
        for (int index = 0; index < 20; index++) {
            int asked = index;
            String sign = answer(locks, asking -> asking.outputAt(asked));
            text.append(sign.length() == 1 ? sign : " end").append(sign.length() == 1 ? "" : sign);
        }
        return text.toString();
    }

    static String snapshotOf(Locks locks) {
        return answer(locks, Locks::restore) + " " + Scenes.stateOf(locks);
    }

    static String answer(Locks locks, Function<Locks, Object> call) {
        try {
            return String.valueOf(call.apply(locks));
        } catch (IllegalStateException | IllegalArgumentException | IndexOutOfBoundsException
                | NoSuchElementException | UnsupportedOperationException e) {
            return e.getClass().getSimpleName();
        }
    }
}
