/** The boundary cases of "Terms", as far as they are about boats, events and predictions. */
final class TermsBoatsEdges {
    private TermsBoatsEdges() {
    }

    static void check() {
        numberOfBoats();
        indicesMove();
        propertiesOfBoats();
        whateverTheLevels();
        waysOfBoats();
        roomOfBasins();
        order();
        conditions();
        draughts();
        inOrAway();
        oneGateAMinute();
        latestEvents();
        whatIsAnEvent();
        leavingIsNotPassing();
        predictions();
        predictionsChangeNothing();
    }

    private static void numberOfBoats() {
        Doc.says(Doc.TERMS, "At most 8 boats are on the locks; they have the indices 0 to n - 1 in the"
                + " order in which they were added; when a boat leaves, the indices of the boats that were"
                + " added later decrease by 1.");
        for (int count = 0; count < 8; count++) {
            Check.same("the index of one more", count, Scenes.withBoats(count).addBoat('g', 5, true));
        }
        Check.same("eight are there", 8, Scenes.withBoats(8).boatCount());
        Twins.refuses("a ninth boat", IllegalStateException.class, () -> Scenes.withBoats(8),
                x -> x.addBoat('g', 5, true));
        for (int leaving = 0; leaving < 3; leaving++) {
            Locks locks = Scenes.open();
            String due = "";
            for (int boat = 0; boat < 3; boat++) {
                locks.addBoat(boat == leaving ? 'r' : 'b', 1 + boat, true);
                due += boat == leaving ? "" : 1 + boat;
            }
            Check.same("one leaves", 1, locks.advance(4));
            Check.same("the others after boat " + leaving + " has left", due,
                    "" + locks.draught(0) + locks.draught(1));
            Check.same("the next index", 2, locks.addBoat('g', 9, false));
        }
        Locks full = Scenes.open();
        for (int boat = 0; boat < 8; boat++) {
            full.addBoat('b', 1 + boat, false);
        }
        Check.same("the first one leaves", 1, full.advance(4));
        Check.same("the others have moved down", "2345678", draughtsOf(full));
        Check.same("there is room for the eighth again", 7, full.addBoat('r', 9, true));
        Check.fails("but for no ninth", IllegalStateException.class, () -> full.addBoat('r', 9, true));
    }

    /** All that belongs to a boat moves to its new index. */
    private static void indicesMove() {
        for (int leaving = 0; leaving < 4; leaving++) {
            String[] boats = {"b1v0", "g2^4", "b3v0", "g4^4"};
            boats[leaving] = "r9v0";
            Locks locks = Scenes.open();
            locks.shutGate(3);
            for (String boat : boats) {
                locks.addBoat(boat.charAt(0), boat.charAt(1) - '0', boat.charAt(2) == 'v');
            }
            // Only the red boat passes gate 0 in the first minute, and gate 3 in the fourth one.
            locks.advance(1);
            locks.shutGate(0);
            locks.advance(2);
            locks.openGate(3);
            Check.same("boat " + leaving + " leaves", 1, locks.advance(1));
            boats[leaving] = "";
            Check.same("the others after boat " + leaving, String.join("", boats), boatsOf(locks));
        }
    }

    private static String boatsOf(Locks locks) {
        StringBuilder boats = new StringBuilder();
        for (int boat = 0; boat < locks.boatCount(); boat++) {
            boats.append(Scenes.outputOf(locks, locks.renderBoat(boat)));
        }
        return boats.toString();
    }

    private static String draughtsOf(Locks locks) {
        String draughts = "";
        for (int boat = 0; boat < locks.boatCount(); boat++) {
            draughts += locks.draught(boat);
        }
        return draughts;
    }

    private static void propertiesOfBoats() {
        Doc.says(Doc.TERMS, "A boat has a colour, which is red, green or blue, a draught from 1 to 9"
                + " decimetres, and a direction.");
        for (char colour : "rgb".toCharArray()) {
            for (int draught : new int[] {1, 2, 8, 9}) {
                for (int way = 0; way < 2; way++) {
                    Locks locks = Locks.make();
                    locks.addBoat(colour, draught, way == 0);
                    Check.same("as it was added", "" + colour + draught + (way == 0),
                            "" + locks.colour(0) + locks.draught(0) + locks.isGoingDown(0));
                }
            }
        }
        Class<IllegalArgumentException> due = IllegalArgumentException.class;
        Twins.refusesEach("draught", due, Scenes::busy, new int[] {0, 10},
                (x, draught) -> x.addBoat('r', draught, true));
        Twins.refusesEach("colour", due, Scenes::busy, new int[] {'q', 's', 'f', 'h', 'a', 'c'},
                (x, colour) -> x.addBoat((char) colour, 3, true));
    }

    private static void whateverTheLevels() {
        Doc.says(Doc.TERMS, "A boat can be added whatever the levels are.");
        Locks dry = Scenes.dry();
        Check.same("basin 4 is empty", 0, dry.volume(4));
        Check.same("the deepest boat on no water", 0, dry.addBoat('r', 9, false));
        Check.same("the deepest boat on little water", 1, dry.addBoat('g', 9, true));
        Check.holds("none of them floats", !dry.floats(0, 4) && !dry.floats(1, 0));
        dry.advance(1);
        Check.same("they stay where they began", "4 0", Scenes.basinsOf(dry));
        Locks full = Scenes.full();
        Check.same("the deepest boat on the highest water", 0, full.addBoat('b', 9, true));
        Check.same("the flattest boat on the highest water", 1, full.addBoat('b', 1, false));
    }

    private static void waysOfBoats() {
        Doc.says(Doc.TERMS, "A boat that goes down begins in basin 0 and leaves when it comes to basin 4;"
                + " a boat that goes up begins in basin 4 and leaves when it comes to basin 0.");
        for (int way = 0; way < 2; way++) {
            Locks locks = Scenes.open();
            locks.addBoat('g', 1, way == 0);
            for (int minute = 0; minute < 4; minute++) {
                Check.same("after " + minute + " minutes", way == 0 ? minute : 4 - minute,
                        locks.basinOf(0));
                Check.same("in the next minute", minute == 3 ? 1 : 0, locks.advance(1));
            }
            Check.same("it has left", "0 1", locks.boatCount() + " " + locks.leftTotal('g'));
        }
    }

    private static void roomOfBasins() {
        Doc.says(Doc.TERMS, "At most 2 boats are in each of the basins 1 to 3; there is no such limit for"
                + " the basins 0 and 4.");
        for (int way = 0; way < 2; way++) {
            for (int basin = 1; basin <= 3; basin++) {
                Locks locks = Scenes.open();
                int behind = way == 0 ? basin - 1 : basin + 1;
                locks.shutGate(way == 0 ? basin : basin - 1);
                locks.addBoat('b', 1, way == 0);
                locks.advance(5);
                Check.same("one in basin " + basin, 1, locks.boatsIn(basin));
                locks.addBoat('g', 1, way == 0);
                locks.advance(5);
                Check.same("room for a second one", 2, locks.boatsIn(basin));
                locks.addBoat('r', 1, way == 0);
                locks.advance(5);
                Check.same("no room for a third one", "2 1", locks.boatsIn(basin) + " "
                        + locks.boatsIn(behind));
                Check.same("which one waits", behind, locks.basinOf(2));
            }
            int end = way == 0 ? 4 : 0;
            Locks ends = Scenes.open();
            ends.addBoat('r', 1, way == 0);
            ends.advance(3);
            for (int boat = 0; boat < 7; boat++) {
                ends.addBoat('b', 1, way != 0);
            }
            Check.same("seven in basin " + end, 7, ends.boatsIn(end));
            Check.same("and room for one that leaves there", 1, ends.advance(1));
            Check.same("eight begin in basin " + end, 8, eightIn(way != 0).boatsIn(end));
        }
    }

    private static Locks eightIn(boolean isDown) {
        Locks locks = Locks.make();
        for (int boat = 0; boat < 8; boat++) {
            locks.addBoat('b', 1, isDown);
        }
        return locks;
    }

    private static void order() {
        Doc.says(Doc.TERMS, "Fourth, boats pass gates: boats are considered one after the other, first the"
                + " red ones, then the green ones, then the blue ones, and those of one colour in the order"
                + " of their indices at the beginning of this step.");
        String[] colours = {"bgr", "brg", "gbr", "rbg", "grb", "rgb"};
        for (String order : colours) {
            Locks locks = Scenes.open();
            for (char colour : order.toCharArray()) {
                locks.addBoat(colour, 1, true);
            }
            String passed = "";
            for (int minute = 0; minute < 3; minute++) {
                String before = Scenes.basinsOf(locks);
                locks.advance(1);
                passed += whoBegan(locks, before);
            }
            Check.same("who begins, of " + order, "rgb", passed);
        }
        Locks same = Scenes.open();
        same.addBoat('g', 1, true);
        same.addBoat('g', 2, true);
        same.advance(1);
        Check.same("the lower index first", "1 0", Scenes.basinsOf(same));
        // While boat 0 leaves, 1 and 2 keep their turns: 1 takes the gate that 2 wants as well.
        Locks leaving = Scenes.open();
        leaving.addBoat('r', 1, true);
        leaving.advance(3);
        leaving.addBoat('r', 2, true);
        leaving.addBoat('r', 3, true);
        Check.same("boat 0 leaves", 1, leaving.advance(1));
        Check.same("then the former boat 1 before the former boat 2", "1 0", Scenes.basinsOf(leaving));
        // Two leave in one minute, at both ends, around one that stays.
        Locks both = Scenes.open();
        both.addBoat('r', 1, true);
        both.addBoat('r', 2, false);
        both.advance(3);
        both.addBoat('r', 3, false);
        both.addBoat('r', 4, false);
        Check.same("two leave", 2, both.advance(1));
        Check.same("the gate was taken by the one that left", "4 4", Scenes.basinsOf(both));
        both.advance(1);
        Check.same("the lower index first", "3 4", Scenes.basinsOf(both));
    }

    private static String whoBegan(Locks locks, String before) {
        for (int boat = 0; boat < 3; boat++) {
            if (before.charAt(2 * boat) == '0' && locks.basinOf(boat) == 1) {
                return "" + locks.colour(boat);
            }
        }
        return "-";
    }

    private static void conditions() {
        Doc.says(Doc.TERMS, "A boat passes the gate towards its direction if this gate is open and no boat"
                + " has passed it in this minute, the basin behind it has room, and the exact level of that"
                + " basin is not less than the draught of the boat.");
        for (int gate = 0; gate < 4; gate++) {
            for (int way = 0; way < 2; way++) {
                Locks locks = Scenes.open();
                int from = way == 0 ? gate : gate + 1;
                locks.shutGate(gate);
                locks.addBoat('r', 1, way == 0);
                locks.advance(9);
                Check.same("gate " + gate + " is closed", from, locks.basinOf(0));
                locks.openGate(gate);
                boolean isLast = gate == (way == 0 ? 3 : 0);
                Check.same("gate " + gate + " is open", isLast ? 1 : 0, locks.advance(1));
            }
        }
        // One gate, one boat a minute: behind one another, and from both sides.
        Locks queue = Scenes.open();
        queue.addBoat('g', 1, true);
        queue.addBoat('g', 1, true);
        queue.advance(1);
        Check.same("the second one waits", "1 0", Scenes.basinsOf(queue));
        queue.advance(1);
        Check.same("and passes in the next minute", "2 1", Scenes.basinsOf(queue));
        Locks facing = Scenes.open();
        facing.addBoat('b', 1, false);
        facing.advance(3);
        facing.addBoat('g', 1, true);
        facing.advance(1);
        Check.same("green from above before blue from below", "1 1", Scenes.basinsOf(facing));
        Check.same("blue in the next minute", 1, facing.advance(1));
        Locks lastGate = Scenes.open();
        lastGate.addBoat('g', 1, true);
        lastGate.advance(3);
        lastGate.addBoat('b', 1, false);
        Check.same("green leaves by the last gate", 1, lastGate.advance(1));
        Check.same("which is taken then", "4", Scenes.basinsOf(lastGate));
        lastGate.advance(1);
        Check.same("and free a minute later", "3", Scenes.basinsOf(lastGate));
        roomInOneMinute();
        levelOfTheMinute();
    }

    /** Room counts when the boat is considered: who goes on later in the minute still takes it. */
    private static void roomInOneMinute() {
        for (int order = 0; order < 2; order++) {
            Locks locks = Scenes.open();
            locks.shutGate(1);
            char ahead = order == 0 ? 'r' : 'b';
            locks.addBoat(ahead, 1, true);
            locks.addBoat(ahead, 1, true);
            locks.advance(3);
            locks.addBoat('g', 1, true);
            locks.openGate(1);
            locks.advance(1);
            Check.same("before or after the green one, " + ahead, order == 0 ? "2 1 1" : "2 1 0",
                    Scenes.basinsOf(locks));
        }
        Locks elsewhere = Scenes.open();
        elsewhere.shutGate(1);
        elsewhere.addBoat('b', 1, true);
        elsewhere.addBoat('b', 1, true);
        elsewhere.advance(3);
        elsewhere.addBoat('r', 1, false);
        elsewhere.addBoat('g', 1, true);
        elsewhere.advance(1);
        Check.same("a boat at another gate makes no room", "1 1 3 0", Scenes.basinsOf(elsewhere));
    }

    /** The water of the same minute counts: rain and flow come before the boats. */
    private static void levelOfTheMinute() {
        for (int draught = 1; draught <= 3; draught++) {
            Locks rising = Scenes.dry();
            rising.setRain(2);
            rising.addBoat('g', draught, true);
            int minutes = 0;
            while (minutes < 100 && rising.basinOf(0) == 0) {
                rising.advance(1);
                minutes++;
                Check.same("minute " + minutes, rising.volume(1) >= 6 * draught ? 1 : 0,
                        rising.basinOf(0));
            }
            Check.holds("it had to wait", minutes > 1 && minutes < 100);
        }
        // 54 litres carry a draught of 9: basin 3 has 55, but 51 at the end of the next minute's flow.
        Locks falling = Scenes.lowered(false, 3, 37, 0);
        falling.openGate(3);
        falling.setDrain(9);
        Check.same("now", "55 90 true", falling.volume(3) + " " + falling.volume(4) + " "
                + falling.floats(0, 3));
        falling.advance(1);
        Check.same("then", "51 85 4", falling.volume(3) + " " + falling.volume(4) + " "
                + falling.basinOf(0));
    }

    private static void draughts() {
        // Each row: 0 for down, the gate, minutes of 9 and of 1 litre of drain, what is behind then.
        int[][] rows = {
            {0, 0, 38, 3, 54}, {0, 0, 39, 0, 53}, {0, 1, 38, 0, 54}, {0, 1, 39, 0, 53},
            {0, 2, 37, 1, 54}, {0, 2, 38, 0, 53}, {0, 3, 37, 1, 90}, {0, 3, 37, 2, 89},
            {1, 0, 39, 0, 90}, {1, 0, 40, 0, 89}, {1, 1, 38, 3, 54}, {1, 1, 39, 0, 53},
            {1, 2, 38, 0, 54}, {1, 2, 39, 0, 53}, {1, 3, 37, 1, 54}, {1, 3, 38, 0, 53},
        };
        for (int[] row : rows) {
            boolean isDown = row[0] == 0;
            int gate = row[1];
            Locks locks = Scenes.lowered(isDown, gate, row[2], row[3]);
            int behind = isDown ? gate + 1 : gate;
            String what = row[4] + " litres in basin " + behind + " for a draught of 9";
            Check.same("behind gate " + gate, row[4], locks.volume(behind));
            boolean isDeep = row[4] >= 9 * locks.area(behind);
            Check.same(what + ", floats", isDeep, locks.floats(0, behind));
            locks.openGate(gate);
            boolean isEnd = behind == 0 || behind == 4;
            Check.same(what + ", leaves", isDeep && isEnd ? 1 : 0, locks.advance(1));
            int stays = isDown ? gate : gate + 1;
            Check.same(what + ", is in", isDeep && isEnd ? "" : "" + (isDeep ? behind : stays),
                    Scenes.basinsOf(locks));
        }
    }

    private static void inOrAway() {
        Doc.says(Doc.TERMS, "It is in that basin then, or leaves.");
        Locks locks = Scenes.open();
        locks.addBoat('r', 1, true);
        locks.advance(3);
        Check.same("in basin 3 and nowhere else", "0 0 0 1 0", boatsByBasin(locks));
        locks.advance(1);
        Check.same("away, in no basin", "0 0 0 0 0", boatsByBasin(locks));
        Check.same("and not counted", 0, locks.boatCount());
    }

    private static String boatsByBasin(Locks locks) {
        return locks.boatsIn(0) + " " + locks.boatsIn(1) + " " + locks.boatsIn(2) + " "
                + locks.boatsIn(3) + " " + locks.boatsIn(4);
    }

    private static void oneGateAMinute() {
        Doc.says(Doc.TERMS, "Each boat passes at most one gate in a minute.");
        for (int way = 0; way < 2; way++) {
            Locks locks = Scenes.open();
            locks.addBoat('b', 1, way == 0);
            locks.advance(1);
            Check.same("one gate of four open ones", way == 0 ? 1 : 3, locks.basinOf(0));
            Check.same("one event", 1, locks.eventCount());
        }
    }

    private static void latestEvents() {
        Doc.says(Doc.TERMS, "The latest 8 events are remembered.");
        // Minute 1 spills 1 litre, minute 2 spills 2 litres, and so on.
        for (int spills = 0; spills <= 20; spills++) {
            Locks locks = Scenes.weathered(5, 0, 20);
            String due = "";
            for (int spill = 1; spill <= spills; spill++) {
                locks.setRain(1 + (spill - 1) % 9);
                locks.advance(1);
                due = "s" + (1 + (spill - 1) % 9) + (due.isEmpty() ? "" : " ") + due;
            }
            due = due.length() > 23 ? due.substring(0, 23) : due;
            Check.same(spills + " spills", due, Scenes.eventsOf(locks));
            Check.same("remembered of " + spills, Math.min(spills, 8), locks.eventCount());
        }
    }

    private static void whatIsAnEvent() {
        Doc.says(Doc.TERMS, "An event is a boat that passes a gate into a basin, a boat that leaves, or"
                + " water that is spilled, which is an event each time when at least 1 litre is spilled.");
        Locks brim = Scenes.weathered(5, 0, 20);
        Check.same("no litre spilled, no event", "400 0", brim.volume(0) + " " + brim.eventCount());
        brim.setRain(0);
        brim.advance(3);
        Check.same("nor without rain", 0, brim.eventCount());
        brim.setRain(1);
        brim.advance(1);
        Check.same("one litre is an event", "s1", Scenes.eventsOf(brim));
        brim.advance(1);
        Check.same("each time", "s1 s1", Scenes.eventsOf(brim));
        Locks locks = Scenes.open();
        locks.addBoat('r', 7, true);
        Check.same("a boat that is added is none", 0, locks.eventCount());
        locks.advance(1);
        Check.same("a boat that passes", "p0", Scenes.eventsOf(locks));
        locks.shutGate(1);
        locks.advance(5);
        Check.same("a boat that waits is none", "p0", Scenes.eventsOf(locks));
        locks.openGate(1);
        locks.advance(3);
        Check.same("a boat that leaves", "l7 p2 p1 p0", Scenes.eventsOf(locks));
    }

    private static void leavingIsNotPassing() {
        Doc.says(Doc.TERMS, "A boat that leaves is not remembered as passing a gate.");
        for (int way = 0; way < 2; way++) {
            Locks locks = Scenes.open();
            locks.addBoat('g', 6, way == 0);
            locks.advance(3);
            Check.same("three gates passed", way == 0 ? "p2 p1 p0" : "p1 p2 p3", Scenes.eventsOf(locks));
            locks.advance(1);
            Check.same("the fourth by leaving", way == 0 ? "l6 p2 p1 p0" : "l6 p1 p2 p3",
                    Scenes.eventsOf(locks));
        }
    }

    private static void predictions() {
        Doc.says(Doc.TERMS, "A prediction describes what would happen if nothing but minutes happened from"
                + " now on.");
        for (int minutes : new int[] {1, 2, 50, 199, 200}) {
            Locks locks = Scenes.busy();
            String due = "";
            for (int basin = 0; basin < 5; basin++) {
                due += (basin == 0 ? "" : " ") + locks.volumeAfter(basin, minutes);
            }
            locks.advance(minutes);
            Check.same("the volumes after " + minutes, due, Scenes.volumesOf(locks));
        }
        for (int boat = 0; boat < 3; boat++) {
            Locks locks = Scenes.onTheirWay();
            int draught = locks.draught(boat);
            int minutes = locks.minutesUntilLeaving(boat);
            Scenes.later(locks, minutes - 1);
            Check.holds("not earlier", draughtsOf(locks).contains("" + draught));
            locks.advance(1);
            Check.holds("but then", !draughtsOf(locks).contains("" + draught));
        }
    }

    private static void predictionsChangeNothing() {
        Doc.says(Doc.TERMS, "It does not change the state.");
        Twins.changesNothing("volumeAfter", Scenes::busy, x -> x.volumeAfter(4, 200));
        Twins.changesNothing("minutesUntilEqual", Scenes::busy, x -> x.minutesUntilEqual(0));
        Twins.changesNothing("minutesUntilLeaving", Scenes::onTheirWay, x -> x.minutesUntilLeaving(1));
        Twins.refuses("minutesUntilLeaving of a boat that does not leave",
                java.util.NoSuchElementException.class, () -> Scenes.withBoats(2),
                x -> x.minutesUntilLeaving(1));
        Twins.refuses("minutesUntilEqual of basins that do not come to it",
                java.util.NoSuchElementException.class, Locks::make, x -> x.minutesUntilEqual(0));
    }
}
