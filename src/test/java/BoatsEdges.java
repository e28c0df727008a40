import java.util.NoSuchElementException;
import java.util.function.ObjIntConsumer;
import java.util.function.Supplier;

/** The boundary cases of the promises 27 to 38: what the face tells of the boats, and predictions. */
final class BoatsEdges {
    private static final Class<IndexOutOfBoundsException> INDEX = IndexOutOfBoundsException.class;
    private static final Class<IllegalArgumentException> ARGUMENT = IllegalArgumentException.class;
    private static final Class<NoSuchElementException> ELEMENT = NoSuchElementException.class;
    private static final int LEAST = Integer.MIN_VALUE;
    private static final int MOST = Integer.MAX_VALUE;
    private static final int[] NO_BASINS = {-1, 5, 6, LEAST, MOST};
    private static final String NO_BOAT = "Throws `IndexOutOfBoundsException` if there is no such boat";

    private BoatsEdges() {
    }

    static void check() {
        boatCount();
        properties();
        basinOf();
        boatsIn();
        boatInOrder();
        floats();
        leftTotal();
        minutesUntilLeaving();
        tooLateToLeave();
        minutesUntilEqual();
        tooLateToBeEqual();
        volumeAfter();
    }

    private static void boatCount() {
        Doc.says(27, "Returns the number of boats.");
        for (int count = 0; count <= 8; count++) {
            Check.same("added", count, Scenes.withBoats(count).boatCount());
        }
        Locks locks = Scenes.onTheirWay();
        locks.advance(2);
        Check.same("before any leaves", 3, locks.boatCount());
        locks.advance(1);
        Check.same("two have left", 1, locks.boatCount());
        locks.advance(2);
        Check.same("all have left", 0, locks.boatCount());
    }

    private static void properties() {
        for (int count = 1; count <= 8; count++) {
            for (int boat : new int[] {0, count - 1}) {
                Locks locks = Scenes.withBoats(count);
                Doc.says(28, "Returns the colour of a boat.");
                Check.same("boat " + boat + " of " + count, "rgb".charAt(boat % 3), locks.colour(boat));
                Doc.says(29, "Returns the draught of a boat.");
                Check.same("boat " + boat + " of " + count, 1 + boat, locks.draught(boat));
                Doc.says(30, "Returns whether a boat goes down.");
                Check.same("boat " + boat + " of " + count, boat % 2 == 0, locks.isGoingDown(boat));
            }
        }
        Doc.says(29, "Returns the draught of a boat.");
        Locks locks = Locks.make();
        locks.addBoat('r', 9, true);
        locks.addBoat('r', 1, true);
        Check.same("the most and the least", "9 1", locks.draught(0) + " " + locks.draught(1));
        noBoat(28, Locks::colour);
        noBoat(29, Locks::draught);
        noBoat(30, Locks::isGoingDown);
    }

    /** No boats at all, one, some and the most: the index behind the last one is none. */
    private static void noBoat(int promise, ObjIntConsumer<Locks> call) {
        Doc.says(promise, NO_BOAT);
        for (int count : new int[] {1, 7, 8}) {
            call.accept(Scenes.withBoats(count), 0);
            call.accept(Scenes.withBoats(count), count - 1);
        }
        indicesBeyond(call);
    }

    private static void indicesBeyond(ObjIntConsumer<Locks> call) {
        for (int count : new int[] {0, 1, 7, 8}) {
            Twins.refusesEach("of " + count + ", boat", INDEX, () -> Scenes.withBoats(count),
                    new int[] {-1, count, count + 1, 8, LEAST, MOST}, call);
        }
        Supplier<Locks> left = () -> Scenes.later(Scenes.onTheirWay(), 3);
        Twins.refusesEach("after two of three have left, boat", INDEX, left, new int[] {1, 2}, call);
    }

    private static void basinOf() {
        Doc.says(31, "Returns the basin in which a boat is.");
        for (int way = 0; way < 2; way++) {
            Locks locks = Scenes.open();
            locks.addBoat('b', 1, way == 0);
            for (int minute = 0; minute < 4; minute++) {
                Check.same("after " + minute, way == 0 ? minute : 4 - minute, locks.basinOf(0));
                locks.advance(1);
            }
        }
        noBoat(31, Locks::basinOf);
    }

    private static void boatsIn() {
        Doc.says(32, "Returns the number of boats in a basin.");
        for (int count = 0; count <= 8; count++) {
            Locks locks = Scenes.withBoats(count);
            Check.same("of " + count, (count + 1) / 2 + " 0 0 0 " + count / 2, locks.boatsIn(0) + " "
                    + locks.boatsIn(1) + " " + locks.boatsIn(2) + " " + locks.boatsIn(3) + " "
                    + locks.boatsIn(4));
        }
        Locks two = Scenes.open();
        two.shutGate(1);
        two.addBoat('r', 1, true);
        two.addBoat('r', 1, true);
        two.advance(2);
        Check.same("two", "0 2", two.boatsIn(0) + " " + two.boatsIn(1));
        Doc.says(32, "Throws `IndexOutOfBoundsException` if there is no such basin");
        Check.same("0 and 4", "3 2", Scenes.withBoats(5).boatsIn(0) + " " + Scenes.withBoats(5).boatsIn(4));
        Twins.refusesEach("basin", INDEX, Scenes::busy, NO_BASINS, Locks::boatsIn);
    }

    private static void boatInOrder() {
        Doc.says(33, "Returns the boat at a rank in the order in which boats are considered in a minute.");
        Check.same("rgbrgbrg", "03614725", orderOf(Scenes.withBoats(8)));
        Check.same("rgb", "012", orderOf(Scenes.withBoats(3)));
        Locks turned = Locks.make();
        String colours = "bbggrrbr";
        for (int boat = 0; boat < 8; boat++) {
            turned.addBoat(colours.charAt(boat), 9 - boat, boat % 2 == 0);
        }
        Check.same("bbggrrbr", "45723016", orderOf(turned));
        Doc.says(33, "- `rank`: the rank, counted from 0");
        Check.same("the only one", 0, Scenes.withBoats(1).boatInOrder(0));
        Doc.says(33, "Throws `NoSuchElementException` if there is no such rank");
        for (int count : new int[] {0, 1, 7, 8}) {
            Supplier<Locks> made = () -> Scenes.withBoats(count);
            if (count > 0) {
                Check.same("the first of " + count, 0, made.get().boatInOrder(0));
                Check.same("the last of " + count, count == 8 ? 5 : count == 7 ? 5 : 0,
                        made.get().boatInOrder(count - 1));
            }
            Twins.refusesEach("of " + count + ", rank", ELEMENT, made,
                    new int[] {-1, count, count + 1, 8, LEAST, MOST}, Locks::boatInOrder);
        }
    }

    private static String orderOf(Locks locks) {
        String order = "";
        for (int rank = 0; rank < locks.boatCount(); rank++) {
            order += locks.boatInOrder(rank);
        }
        return order;
    }

    private static void floats() {
        Doc.says(34, "Returns whether a boat would float in a basin: whether the exact level of the basin"
                + " is not less than its draught.");
        // Basin 4 with a level of d, and with a litre less.
        for (int draught = 1; draught <= 6; draught++) {
            int minutes = 60 - 10 * draught;
            Locks deep = Scenes.weathered(0, 1, minutes);
            deep.addBoat('r', draught, true);
            Check.same("litres", 10 * draught, deep.volume(4));
            Check.holds("just deep enough for " + draught, deep.floats(0, 4));
            deep.advance(1);
            Check.holds("a litre less than " + draught, !deep.floats(0, 4));
        }
        Locks locks = Locks.make();
        for (int draught = 1; draught <= 8; draught++) {
            locks.addBoat('g', draught, false);
            Check.same("6 dm for " + draught, draught <= 6, locks.floats(draught - 1, 4));
            Check.holds("12 dm for " + draught, locks.floats(draught - 1, 3));
        }
        // Basins of 6 square decimetres: 54 litres carry a draught of 9, 53 litres do not.
        int[][] rows = {{1, 38, 3}, {1, 39, 0}, {2, 38, 0}, {2, 39, 0}, {3, 37, 1}, {3, 38, 0}};
        for (int[] row : rows) {
            Locks low = Scenes.lowered(true, row[0] - 1, row[1], row[2]);
            Check.same("litres in basin " + row[0] + ": " + low.volume(row[0]), low.volume(row[0]) >= 54,
                    low.floats(0, row[0]));
            Check.holds("54 or 53", low.volume(row[0]) == 54 || low.volume(row[0]) == 53);
        }
        Locks dry = Scenes.dry();
        dry.addBoat('r', 1, true);
        for (int basin = 0; basin < 5; basin++) {
            Check.holds("no water in basin " + basin, !dry.floats(0, basin));
        }
        Doc.says(34, "Throws `IndexOutOfBoundsException` if there is no such boat or no such basin");
        Check.holds("the last boat in the first basin", Scenes.withBoats(8).floats(7, 0));
        Check.holds("the first boat in the last basin", Scenes.withBoats(8).floats(0, 4));
        for (int count : new int[] {0, 1, 8}) {
            Twins.refusesEach("of " + count + ", boat", INDEX, () -> Scenes.withBoats(count),
                    new int[] {-1, count, count + 1, LEAST, MOST}, (x, boat) -> x.floats(boat, 4));
        }
        Twins.refusesEach("basin", INDEX, () -> Scenes.withBoats(8), NO_BASINS,
                (x, basin) -> x.floats(7, basin));
        Twins.refusesEach("neither boat nor basin", INDEX, Scenes::busy, new int[] {-1, 8, LEAST, MOST},
                (x, both) -> x.floats(both, both));
    }

    private static void leftTotal() {
        Doc.says(35, "Returns the number of boats of a colour that have left so far.");
        for (char colour : "rgb".toCharArray()) {
            Locks locks = Scenes.open();
            for (int count = 0; count < 10; count++) {
                Check.same("of " + colour, "" + (colour == 'r' ? count : 0) + (colour == 'g' ? count : 0)
                        + (colour == 'b' ? count : 0), "" + locks.leftTotal('r') + locks.leftTotal('g')
                        + locks.leftTotal('b'));
                locks.addBoat(colour, 1, count % 2 == 0);
                locks.advance(4);
            }
        }
        Doc.says(35, "Throws `IllegalArgumentException` if there is no such colour");
        Check.same("r, g and b", 0, Locks.make().leftTotal('r') + Locks.make().leftTotal('g')
                + Locks.make().leftTotal('b'));
        int[] signs = {'q', 's', 'f', 'h', 'a', 'c', 'R', 'G', 'B', ' ', 0, 'r' + 256, 65535};
        Twins.refusesEach("colour", ARGUMENT, Scenes::busy, signs, (x, sign) -> x.leftTotal((char) sign));
    }

    private static void minutesUntilLeaving() {
        Doc.says(36, "Predicts after how many minutes a boat leaves.");
        for (int way = 0; way < 2; way++) {
            Locks locks = Scenes.open();
            locks.addBoat('g', 1, way == 0);
            for (int minutes = 4; minutes >= 1; minutes--) {
                Check.same("before it leaves", minutes, locks.minutesUntilLeaving(0));
                locks.advance(1);
            }
            Check.same("it has left", 0, locks.boatCount());
        }
        // Eight in a queue: each of them is told from the others, although their indices move.
        Locks queue = Scenes.open();
        for (int boat = 0; boat < 8; boat++) {
            queue.addBoat('r', 1, false);
        }
        for (int boat = 0; boat < 8; boat++) {
            Check.same("boat " + boat + " of a queue", 4 + boat, queue.minutesUntilLeaving(boat));
        }
        queue.advance(5);
        for (int boat = 0; boat < 6; boat++) {
            Check.same("boat " + boat + " when two have left", 1 + boat, queue.minutesUntilLeaving(boat));
        }
        // Boats are told apart whatever has brought them: a call, a script, a call after an undo.
        Locks mixed = Scenes.open();
        mixed.addBoat('r', 1, true);
        Scenes.run(mixed, "boat g1 d");
        mixed.save();
        mixed.addBoat('g', 2, true);
        mixed.undo();
        mixed.addBoat('b', 1, true);
        Check.same("by call, script and call", "456", "" + mixed.minutesUntilLeaving(0)
                + mixed.minutesUntilLeaving(1) + mixed.minutesUntilLeaving(2));
        mixed.restore();
        mixed.addBoat('b', 2, true);
        Check.same("after a restore", "456", "" + mixed.minutesUntilLeaving(0)
                + mixed.minutesUntilLeaving(1) + mixed.minutesUntilLeaving(2));
        Doc.says(36, NO_BOAT);
        Check.same("the first of three", 3, Scenes.onTheirWay().minutesUntilLeaving(0));
        Check.same("the last of three", 5, Scenes.onTheirWay().minutesUntilLeaving(2));
        indicesBeyond(Locks::minutesUntilLeaving);
    }

    /** All gates are open over hardly any water; a litre of rain a minute lifts the boat at last. */
    private static Locks filling(int minutes) {
        Locks locks = Scenes.dry();
        locks.setRain(1);
        locks.addBoat('r', 6, true);
        return Scenes.later(locks, minutes);
    }

    private static void tooLateToLeave() {
        Doc.says(36, "Throws `NoSuchElementException` if it does not leave within 200 minutes");
        Locks locks = filling(200);
        Check.same("nobody has left in 200 minutes", 1, locks.boatCount());
        Check.same("nor in 222", 0, locks.advance(22));
        Check.same("it leaves in minute 223", 1, locks.advance(1));
        Check.same("in 23 minutes", 23, filling(200).minutesUntilLeaving(0));
        Check.same("in 199 minutes", 199, filling(24).minutesUntilLeaving(0));
        Check.same("in 200 minutes", 200, filling(23).minutesUntilLeaving(0));
        Twins.refuses("in 201 minutes", ELEMENT, () -> filling(22), x -> x.minutesUntilLeaving(0));
        Twins.refuses("in 223 minutes", ELEMENT, () -> filling(0), x -> x.minutesUntilLeaving(0));
        for (int boat : new int[] {0, 7}) {
            Twins.refuses("never", ELEMENT, () -> Scenes.withBoats(8), x -> x.minutesUntilLeaving(boat));
        }
    }

    private static void minutesUntilEqual() {
        Doc.says(37, "Predicts after how many minutes the equalizing amount of the basins of a gate is 0"
                + " for the first time.");
        // 18 litres: 5, 5, 5 and 3, or 10 and 8, or 15 and 3.
        int[] minutes = {0, 4, 2, 2};
        for (int opening = 1; opening < 4; opening++) {
            Check.same("opening " + opening, minutes[opening],
                    Scenes.valves(0, opening, 0, 0).minutesUntilEqual(1));
        }
        // After 2 minutes there is nothing to equalize; then basin 3 loses water again.
        Locks again = Scenes.valves(0, 0, 3, 0);
        Check.same("the first time", 2, again.minutesUntilEqual(2));
        again.setValve(3, 1);
        int first = again.minutesUntilEqual(2);
        for (int minute = 0; minute < first; minute++) {
            Check.holds("not before the first time", again.equalizingAmount(2) > 0);
            again.advance(1);
        }
        Check.same("at the first time", 0, again.equalizingAmount(2));
        Doc.says(37, "Returns the number of minutes, 0 if it is 0 now.");
        Locks now = Scenes.valves(0, 3, 0, 0);
        now.advance(1);
        Check.same("a minute before", 1, now.minutesUntilEqual(1));
        now.advance(1);
        Check.same("now", 0, now.minutesUntilEqual(1));
        now.setValve(0, 3);
        Check.same("now, although it will not stay so", 0, now.minutesUntilEqual(1));
        for (int gate = 0; gate < 4; gate++) {
            Check.same("all of them", 0, Scenes.levelled().minutesUntilEqual(gate));
        }
        Doc.says(37, "Throws `IndexOutOfBoundsException` if there is no such gate");
        Check.same("0 and 3", 0, Scenes.levelled().minutesUntilEqual(0)
                + Scenes.levelled().minutesUntilEqual(3));
        Twins.refusesEach("gate", INDEX, Scenes::busy, new int[] {-1, 4, 5, LEAST, MOST},
                Locks::minutesUntilEqual);
        Twins.refusesEach("gate", INDEX, Locks::make, new int[] {-1, 4}, Locks::minutesUntilEqual);
    }

    private static Locks slow(int rain, int drain, int minutes) {
        Locks locks = Scenes.valves(3, 3, 2, 1);
        locks.setRain(rain);
        locks.setDrain(drain);
        return Scenes.later(locks, minutes);
    }

    private static void tooLateToBeEqual() {
        Doc.says(37, "Throws `NoSuchElementException` if it is not 0 within 200 minutes");
        for (int gate = 0; gate < 4; gate++) {
            int never = gate;
            Twins.refuses("never", ELEMENT, Locks::make, x -> x.minutesUntilEqual(never));
        }
        // What gate 1 and gate 3 need with these openings: 203 and 204 minutes.
        int[][] rows = {{1, 4, 0, 203}, {3, 3, 5, 204}};
        for (int[] row : rows) {
            int gate = row[0];
            Locks locks = slow(row[1], row[2], row[3] - 1);
            Check.holds("a minute before, gate " + gate, locks.equalizingAmount(gate) > 0);
            Check.same("the last minute", 1, locks.minutesUntilEqual(gate));
            locks.advance(1);
            Check.same("in the minute, gate " + gate, 0, locks.equalizingAmount(gate));
            Check.same("in 199 minutes", 199, slow(row[1], row[2], row[3] - 199).minutesUntilEqual(gate));
            Check.same("in 200 minutes", 200, slow(row[1], row[2], row[3] - 200).minutesUntilEqual(gate));
            Twins.refuses("in 201 minutes", ELEMENT, () -> slow(row[1], row[2], row[3] - 201),
                    x -> x.minutesUntilEqual(gate));
        }
    }

    private static void volumeAfter() {
        Doc.says(38, "Predicts the volume of water in a basin.");
        int[] minutes = {0, 1, 59, 60, 61, 200};
        for (int index = 0; index < minutes.length; index++) {
            Locks locks = Scenes.weathered(1, 1, 0);
            Check.same("basin 0 after " + minutes[index], Math.min(300 + minutes[index], 400),
                    locks.volumeAfter(0, minutes[index]));
            Check.same("basin 4 after " + minutes[index], Math.max(60 - minutes[index], 0),
                    locks.volumeAfter(4, minutes[index]));
            Check.same("basin 2 after " + minutes[index], 108, locks.volumeAfter(2, minutes[index]));
        }
        Check.same("a litre below the brim", 399, Scenes.weathered(1, 0, 0).volumeAfter(0, 99));
        Check.same("full", 400, Scenes.weathered(1, 0, 0).volumeAfter(0, 100));
        Check.same("full still", 400, Scenes.weathered(1, 0, 0).volumeAfter(0, 101));
        Doc.says(38, "Throws `IndexOutOfBoundsException` if there is no such basin");
        Check.same("0 and 4", "300 60", Locks.make().volumeAfter(0, 200) + " "
                + Locks.make().volumeAfter(4, 200));
        Twins.refusesEach("basin", INDEX, Scenes::busy, NO_BASINS, (x, basin) -> x.volumeAfter(basin, 0));
        Twins.refusesEach("neither minutes nor basin", INDEX, Scenes::busy, NO_BASINS,
                (x, basin) -> x.volumeAfter(basin, 201));
        Doc.says(38, "Throws `IllegalArgumentException` if the number of minutes is not between 0 and 200");
        Check.same("0", 309, Scenes.weathered(9, 0, 1).volumeAfter(0, 0));
        Check.same("200", 400, Scenes.weathered(1, 1, 0).volumeAfter(0, 200));
        for (int basin : new int[] {0, 4}) {
            Twins.refusesEach("minutes", ARGUMENT, Scenes::busy, new int[] {-1, 201, LEAST, MOST},
                    (x, wrong) -> x.volumeAfter(basin, wrong));
        }
    }
}
