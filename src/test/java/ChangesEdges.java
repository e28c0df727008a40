/** The boundary cases of the promises 1 to 8: a new object and the changes. */
final class ChangesEdges {
    private static final Class<IndexOutOfBoundsException> INDEX = IndexOutOfBoundsException.class;
    private static final Class<IllegalArgumentException> ARGUMENT = IllegalArgumentException.class;
    private static final Class<IllegalStateException> STATE = IllegalStateException.class;
    private static final int LEAST = Integer.MIN_VALUE;
    private static final int MOST = Integer.MAX_VALUE;
    private static final int[] NO_GATES = {-1, 4, 5, LEAST, MOST};

    private ChangesEdges() {
    }

    static void check() {
        aNewObject();
        addBoat();
        setValve();
        openGate();
        shutGate();
        setRain();
        setDrain();
        advance();
    }

    private static void aNewObject() {
        Doc.says(1, "Creates the locks at time 0 without boats.");
        Check.same("a new object", "time 0 volumes 300 144 108 72 60 gates 0false 0false 0false 0false"
                + " weather 0 0 totals 0 0 0 boats left 0 0 0 events ", Scenes.stateOf(Locks.make()));
        Locks other = Scenes.busy();
        Check.same("a new object beside a busy one", 0, Locks.make().time() + Locks.make().boatCount());
        Check.same("which goes on", 203, other.time());
    }

    private static void addBoat() {
        Doc.says(2, "Adds a boat.");
        for (int count = 0; count < 8; count++) {
            Locks locks = Scenes.withBoats(count);
            locks.addBoat('b', 9, count % 2 == 0);
            Check.same("one more", count + 1, locks.boatCount());
            Check.same("the added one", "b9 " + (count % 2 == 0 ? 0 : 4), "" + locks.colour(count)
                    + locks.draught(count) + " " + locks.basinOf(count));
        }
        Doc.says(2, "- `isGoingDown`: true for a boat that goes down, false for one that goes up");
        for (int way = 0; way < 2; way++) {
            Locks locks = Locks.make();
            locks.addBoat('r', 1, way == 0);
            Check.same("its direction", way == 0, locks.isGoingDown(0));
            Check.same("where it begins", way == 0 ? 0 : 4, locks.basinOf(0));
        }
        Doc.says(2, "Returns the index of the boat.");
        for (int count = 0; count < 8; count++) {
            Check.same("the index", count, Scenes.withBoats(count).addBoat('r', 1, true));
        }
        Doc.says(2, "Throws `IllegalArgumentException` if there is no such colour, or the draught is not"
                + " between 1 and 9");
        for (int draught : new int[] {1, 9}) {
            for (char colour : "rgb".toCharArray()) {
                Check.same("taken", 0, Locks.make().addBoat(colour, draught, false));
            }
        }
        Twins.refusesEach("draught", ARGUMENT, Scenes::busy, new int[] {0, 10, -1, LEAST, MOST},
                (x, draught) -> x.addBoat('g', draught, true));
        int[] signs = {'q', 's', 'f', 'h', 'a', 'c', 'R', 'G', 'B', ' ', 0, 'r' + 256, 65535};
        Twins.refusesEach("colour", ARGUMENT, Scenes::busy, signs,
                (x, colour) -> x.addBoat((char) colour, 1, true));
        Twins.refuses("neither colour nor draught", ARGUMENT, Locks::make, x -> x.addBoat('x', 0, true));
        Doc.says(2, "Throws `IllegalStateException` if there are 8 boats");
        Check.same("there are 7", 7, Scenes.withBoats(7).addBoat('r', 1, true));
        Twins.refuses("there are 8, down", STATE, () -> Scenes.withBoats(8), x -> x.addBoat('r', 1, true));
        Twins.refuses("there are 8, up", STATE, () -> Scenes.withBoats(8), x -> x.addBoat('b', 9, false));
        Locks undone = Scenes.withBoats(8);
        undone.undo();
        Check.same("there are 7 again", 7, undone.addBoat('g', 4, true));
        Check.fails("there are 8 again", STATE, () -> undone.addBoat('g', 4, true));
    }

    private static void setValve() {
        Doc.says(3, "Sets the opening of a valve.");
        for (int valve = 0; valve < 4; valve++) {
            for (int opening : new int[] {0, 1, 2, 3}) {
                Locks locks = Scenes.valves(1, 2, 1, 2);
                locks.setValve(valve, opening);
                int[] due = {1, 2, 1, 2};
                due[valve] = opening;
                for (int other = 0; other < 4; other++) {
                    Check.same("valve " + other + " after valve " + valve, due[other],
                            locks.opening(other));
                }
            }
        }
        Doc.says(3, "Returns the previous opening.");
        for (int valve = 0; valve < 4; valve++) {
            Locks locks = Locks.make();
            int[] openings = {3, 0, 1, 2, 2, 0};
            int previous = 0;
            for (int opening : openings) {
                Check.same("valve " + valve + " to " + opening, previous, locks.setValve(valve, opening));
                previous = opening;
            }
        }
        Doc.says(3, "Throws `IndexOutOfBoundsException` if there is no such valve");
        Check.same("valve 0", 0, Locks.make().setValve(0, 1));
        Check.same("valve 3", 0, Locks.make().setValve(3, 1));
        Twins.refusesEach("valve", INDEX, Scenes::busy, NO_GATES, (x, valve) -> x.setValve(valve, 0));
        Twins.refusesEach("neither opening nor valve", INDEX, Scenes::busy, NO_GATES,
                (x, valve) -> x.setValve(valve, 4));
        Doc.says(3, "Throws `IllegalArgumentException` if the opening is not between 0 and 3");
        for (int valve = 0; valve < 4; valve++) {
            int turned = valve;
            Check.same("0", 2, Scenes.valves(2, 2, 2, 2).setValve(valve, 0));
            Check.same("3", 2, Scenes.valves(2, 2, 2, 2).setValve(valve, 3));
            Twins.refusesEach("opening", ARGUMENT, Scenes::busy, new int[] {-1, 4, LEAST, MOST},
                    (x, opening) -> x.setValve(turned, opening));
        }
    }

    private static void openGate() {
        Doc.says(4, "Opens a gate.");
        for (int gate = 0; gate < 4; gate++) {
            Locks locks = Scenes.levelled();
            locks.openGate(gate);
            for (int other = 0; other < 4; other++) {
                Check.same("gate " + other + " after gate " + gate, other == gate, locks.isOpen(other));
            }
        }
        Doc.says(4, "Returns the number of open gates after the call.");
        for (int first = 0; first < 4; first++) {
            Locks locks = Scenes.levelled();
            for (int count = 0; count < 4; count++) {
                Check.same("open gates", count + 1, locks.openGate((first + count) % 4));
            }
        }
        Doc.says(4, "Throws `IndexOutOfBoundsException` if there is no such gate");
        Check.same("gate 0", 1, Scenes.levelled().openGate(0));
        Check.same("gate 3", 1, Scenes.levelled().openGate(3));
        Twins.refusesEach("gate", INDEX, Scenes::busy, NO_GATES, Locks::openGate);
        Twins.refusesEach("gate", INDEX, Locks::make, NO_GATES, Locks::openGate);
        Doc.says(4, "Throws `IllegalStateException` if the gate is open");
        for (int gate = 0; gate < 4; gate++) {
            int open = gate;
            Twins.refuses("gate " + gate, STATE, Scenes::open, x -> x.openGate(open));
            Locks locks = Scenes.open();
            locks.shutGate(gate);
            Check.same("closed again, it opens", 4, locks.openGate(gate));
        }
        Twins.refuses("also if the levels differ", STATE, TermsScriptsEdges::openAndUnequal,
                x -> x.openGate(0));
        Doc.says(4, "Throws `UnsupportedOperationException` if the equalizing amount of its basins is not 0");
        for (int gate = 0; gate < 4; gate++) {
            int shut = gate;
            Twins.refuses("gate " + gate, UnsupportedOperationException.class, Locks::make,
                    x -> x.openGate(shut));
        }
        // 278 and 166: 0, although 278 / 10 is higher than 166 / 6; each litre of rain adds 6 / 16.
        Check.same("nearly equal levels", 1, nearlyEqual(0).openGate(0));
        Check.same("15 / 16", "0 1", nearlyEqual(1).equalizingAmount(0) + " "
                + nearlyEqual(1).openGate(0));
        Check.same("20 / 16", 1, nearlyEqual(2).equalizingAmount(0));
        Twins.refuses("20 / 16", UnsupportedOperationException.class, () -> nearlyEqual(2),
                x -> x.openGate(0));
        Locks equal = Scenes.later(Scenes.valves(0, 3, 0, 0), 2);
        Check.holds("just equal levels", !equal.isHigher(1, 2) && !equal.isHigher(2, 1));
        Check.same("just equal levels", 1, equal.openGate(1));
    }

    private static Locks nearlyEqual(int rain) {
        Locks locks = Scenes.later(Scenes.valves(3, 0, 0, 0), 2);
        locks.setValve(0, 0);
        locks.setRain(rain);
        locks.advance(1);
        return locks;
    }

    private static void shutGate() {
        Doc.says(5, "Closes a gate.");
        for (int gate = 0; gate < 4; gate++) {
            Locks locks = Scenes.open();
            locks.shutGate(gate);
            for (int other = 0; other < 4; other++) {
                Check.same("gate " + other + " after gate " + gate, other != gate, locks.isOpen(other));
            }
        }
        Locks unequal = TermsScriptsEdges.openAndUnequal();
        Check.same("whatever the levels are", 0, unequal.shutGate(0));
        Doc.says(5, "Returns the number of open gates after the call.");
        for (int first = 0; first < 4; first++) {
            Locks locks = Scenes.open();
            for (int count = 0; count < 4; count++) {
                Check.same("open gates", 3 - count, locks.shutGate((first + count) % 4));
            }
        }
        Doc.says(5, "Throws `IndexOutOfBoundsException` if there is no such gate");
        Check.same("gate 0", 3, Scenes.open().shutGate(0));
        Check.same("gate 3", 3, Scenes.open().shutGate(3));
        Twins.refusesEach("gate", INDEX, Scenes::busy, NO_GATES, Locks::shutGate);
        Twins.refusesEach("gate", INDEX, Locks::make, NO_GATES, Locks::shutGate);
        Doc.says(5, "Throws `IllegalStateException` if the gate is closed");
        for (int gate = 0; gate < 4; gate++) {
            int shut = gate;
            Twins.refuses("gate " + gate + " of a new object", STATE, Locks::make, x -> x.shutGate(shut));
            Twins.refuses("gate " + gate + ", shut again", STATE, () -> {
                Locks locks = Scenes.open();
                locks.shutGate(shut);
                return locks;
            }, x -> x.shutGate(shut));
            Locks locks = Scenes.levelled();
            locks.openGate(gate);
            Check.same("open, it closes", 0, locks.shutGate(gate));
        }
    }

    private static void setRain() {
        Locks locks = Locks.make();
        int previous = 0;
        for (int litres : new int[] {9, 0, 1, 8, 8, 9, 9, 0, 0}) {
            Doc.says(6, "Returns the previous rain.");
            Check.same("before " + litres, previous, locks.setRain(litres));
            Doc.says(6, "Sets the rain.");
            Check.same("set", litres, locks.rain());
            Check.same("not the drain", 0, locks.drain());
            previous = litres;
        }
        Doc.says(6, "Throws `IllegalArgumentException` if the number of litres is not between 0 and 9");
        Check.same("0", 0, Locks.make().setRain(0));
        Check.same("9", 0, Locks.make().setRain(9));
        Twins.refusesEach("litres", ARGUMENT, Scenes::busy, new int[] {-1, 10, LEAST, MOST},
                Locks::setRain);
    }

    private static void setDrain() {
        Locks locks = Locks.make();
        int previous = 0;
        for (int litres : new int[] {9, 0, 1, 8, 8, 9, 9, 0, 0}) {
            Doc.says(7, "Returns the previous drain.");
            Check.same("before " + litres, previous, locks.setDrain(litres));
            Doc.says(7, "Sets the drain.");
            Check.same("set", litres, locks.drain());
            Check.same("not the rain", 0, locks.rain());
            previous = litres;
        }
        Doc.says(7, "Throws `IllegalArgumentException` if the number of litres is not between 0 and 9");
        Check.same("0", 0, Locks.make().setDrain(0));
        Check.same("9", 0, Locks.make().setDrain(9));
        Twins.refusesEach("litres", ARGUMENT, Scenes::busy, new int[] {-1, 10, LEAST, MOST},
                Locks::setDrain);
    }

    private static void advance() {
        Doc.says(8, "Lets time pass.");
        for (int minutes : new int[] {1, 2, 199, 200}) {
            Locks locks = Scenes.weathered(1, 0, 0);
            locks.advance(minutes);
            Check.same("the time", minutes, locks.time());
            Check.same("the rain of all minutes", minutes, locks.rainTotal());
        }
        Doc.says(8, "Returns the number of boats that leave in these minutes.");
        Check.same("none are there", 0, Scenes.open().advance(200));
        Check.same("none can leave", 0, Scenes.withBoats(8).advance(200));
        // Eight in a queue of one colour: the first one leaves in minute 4, then one each minute.
        int[] minutes = {1, 3, 4, 5, 10, 11, 12, 200};
        int[] leaving = {0, 0, 1, 2, 7, 8, 8, 8};
        for (int index = 0; index < minutes.length; index++) {
            Locks locks = Scenes.open();
            for (int boat = 0; boat < 8; boat++) {
                locks.addBoat('g', 1, true);
            }
            Check.same("in " + minutes[index] + " minutes", leaving[index], locks.advance(minutes[index]));
            Check.same("the others are there", 8 - leaving[index], locks.boatCount());
            Check.same("those do not count again", 8 - leaving[index], locks.advance(200));
        }
        Doc.says(8, "Throws `IllegalArgumentException` if the number of minutes is not between 1 and 200");
        Check.same("1", 0, Locks.make().advance(1));
        Check.same("200", 0, Locks.make().advance(200));
        Twins.refusesEach("minutes", ARGUMENT, Scenes::busy, new int[] {0, 201, -1, LEAST, MOST},
                Locks::advance);
    }
}
