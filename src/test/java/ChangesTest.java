/** Promises 1 to 8: a new object and the changes. */
final class ChangesTest {
    public static void main(String[] args) {
        aNewObject();
        addBoat();
        setValve();
        openGate();
        shutGate();
        setRain();
        setDrain();
        advance();
        oneMinute();
        flowOfAMinute();
        boatsOfAMinute();
        roomOfTheBasins();
        draughtsAtTheGates();
        Check.end();
    }

    private static void aNewObject() {
        Locks locks = Locks.make();
        Check.same("1: a new object",
                "time 0 volumes 300 144 108 72 60 gates 0false 0false 0false 0false weather 0 0"
                        + " totals 0 0 0 boats left 0 0 0 events ",
                Scenes.stateOf(locks));
        Locks other = Locks.make();
        other.advance(3);
        Check.same("1: two objects share nothing", 0, locks.time());
    }

    private static void addBoat() {
        Locks locks = Locks.make();
        Check.same("2: first index", 0, locks.addBoat('r', 1, true));
        Check.same("2: second index", 1, locks.addBoat('g', 9, false));
        Check.same("2: third index", 2, locks.addBoat('b', 5, true));
        Check.same("2: colours", "rgb", "" + locks.colour(0) + locks.colour(1) + locks.colour(2));
        Check.same("2: draughts", "195", "" + locks.draught(0) + locks.draught(1) + locks.draught(2));
        Check.same("2: basins", "0 4 0", Scenes.basinsOf(locks));
        Check.holds("2: directions",
                locks.isGoingDown(0) && !locks.isGoingDown(1) && locks.isGoingDown(2));
        Check.same("2: no events", 0, locks.eventCount());
        for (int index = 3; index < 8; index++) {
            Check.same("2: further index", index, locks.addBoat('b', 9, true));
        }
        Check.same("2: seven in basin 0", 7, locks.boatsIn(0));
        Locks dry = Locks.make();
        dry.setDrain(9);
        dry.advance(20);
        Check.same("2: whatever the levels are", 0, dry.addBoat('r', 9, false));
    }

    private static void setValve() {
        Locks locks = Locks.make();
        for (int valve = 0; valve < 4; valve++) {
            Check.same("3: previous of a new valve", 0, locks.setValve(valve, 3 - valve));
            Check.same("3: new opening", 3 - valve, locks.opening(valve));
        }
        for (int valve = 0; valve < 4; valve++) {
            Check.same("3: previous opening", 3 - valve, locks.setValve(valve, valve));
            Check.same("3: newer opening", valve, locks.opening(valve));
        }
    }

    private static void openGate() {
        Locks locks = Scenes.levelled();
        int[] order = {2, 0, 3, 1};
        for (int index = 0; index < 4; index++) {
            Check.same("4: open gates", index + 1, locks.openGate(order[index]));
            Check.holds("4: it is open", locks.isOpen(order[index]));
        }
        locks.setRain(9);
        locks.setDrain(9);
        locks.advance(1);
        Check.holds("4: the levels differ now", locks.equalizingAmount(0) + locks.equalizingAmount(3) > 0);
        Check.holds("4: a gate stays open", locks.isOpen(0) && locks.isOpen(3));
        // An amount of 0 is enough: the levels themselves need not be equal.
        Locks near = Locks.make();
        near.setValve(0, 3);
        near.advance(2);
        Check.same("4: nearly equal", "278 166", near.volume(0) + " " + near.volume(1));
        Check.holds("4: one is higher", near.isHigher(0, 1));
        Check.same("4: opens", 1, near.openGate(0));
    }

    private static void shutGate() {
        Locks locks = Scenes.open();
        for (int gate = 0; gate < 4; gate++) {
            Check.same("5: gates that are open still", 3 - gate, locks.shutGate(gate));
            Check.holds("5: it is closed", !locks.isOpen(gate));
        }
        Locks flowing = Scenes.open();
        flowing.setDrain(9);
        flowing.advance(2);
        Check.same("5: whatever the levels are", 3, flowing.shutGate(3));
    }

    private static void setRain() {
        Locks locks = Locks.make();
        Check.same("6: previous at first", 0, locks.setRain(9));
        Check.same("6: previous", 9, locks.setRain(4));
        Check.same("6: now", 4, locks.rain());
        Check.same("6: not the drain", 0, locks.drain());
        Check.same("6: to 0", 4, locks.setRain(0));
        Check.same("6: now 0", 0, locks.rain());
    }

    private static void setDrain() {
        Locks locks = Locks.make();
        Check.same("7: previous at first", 0, locks.setDrain(9));
        Check.same("7: previous", 9, locks.setDrain(4));
        Check.same("7: now", 4, locks.drain());
        Check.same("7: not the rain", 0, locks.rain());
        Check.same("7: to 0", 4, locks.setDrain(0));
        Check.same("7: now 0", 0, locks.drain());
    }

    private static void advance() {
        Locks locks = Scenes.open();
        Check.same("8: nobody leaves", 0, locks.advance(1));
        Check.same("8: one minute", 201, locks.time());
        locks.addBoat('r', 1, true);
        locks.addBoat('g', 1, true);
        locks.addBoat('b', 1, false);
        Check.same("8: nobody in 3 minutes", 0, locks.advance(3));
        Check.same("8: one in the fourth", 1, locks.advance(1));
        Check.same("8: two in the fifth", 2, locks.advance(200));
        Check.same("8: nobody is there any more", 0, locks.advance(200));
        locks.addBoat('r', 1, true);
        locks.addBoat('g', 1, true);
        locks.addBoat('b', 1, true);
        Check.same("8: three in one call", 3, locks.advance(6));
        Check.same("8: the time", 201 + 3 + 1 + 200 + 200 + 6, locks.time());
    }

    private static void oneMinute() {
        Locks locks = Locks.make();
        locks.setRain(7);
        locks.setDrain(8);
        locks.advance(1);
        Check.same("8: rain in basin 0, drain from basin 4", "307 144 108 72 52", Scenes.volumesOf(locks));
        locks.advance(6);
        Check.same("8: the drain takes what there is", "349 144 108 72 4", Scenes.volumesOf(locks));
        Check.same("8: drained by now", 56, locks.drainTotal());
        locks.advance(1);
        Check.same("8: the last 4 litres", "356 144 108 72 0", Scenes.volumesOf(locks));
        Check.same("8: drained in all", 60, locks.drainTotal());
        locks.advance(6);
        Check.same("8: nearly full", 398, locks.volume(0));
        Check.same("8: nothing spilled", 0, locks.spilledTotal() + locks.eventCount());
        locks.advance(1);
        Check.same("8: full", 400, locks.volume(0));
        Check.same("8: what did not fit", 5, locks.spilledTotal());
        Check.same("8: an event", "s5", Scenes.eventsOf(locks));
        locks.advance(2);
        Check.same("8: an event each time", "s7 s7 s5", Scenes.eventsOf(locks));
        Locks exact = Locks.make();
        exact.setRain(5);
        exact.advance(20);
        Check.same("8: full to the brim", 400, exact.volume(0));
        Check.same("8: to the brim is no event", 0, exact.eventCount());
        exact.setRain(0);
        exact.advance(5);
        Check.same("8: no rain, no event", 0, exact.eventCount());
    }

    private static void flowOfAMinute() {
        Locks locks = Locks.make();
        for (int valve = 0; valve < 4; valve++) {
            locks.setValve(valve, 3);
        }
        locks.advance(1);
        Check.same("8: 15 litres through each valve", "285 144 108 72 75", Scenes.volumesOf(locks));
        Locks one = Locks.make();
        one.setValve(1, 1);
        one.setValve(3, 2);
        one.advance(1);
        Check.same("8: 5 litres for each step", "300 139 113 62 70", Scenes.volumesOf(one));
        Locks little = Locks.make();
        little.setValve(0, 3);
        little.advance(2);
        Check.same("8: no more than equalizes", "278 166 108 72 60", Scenes.volumesOf(little));

        // Weather comes before flow, and a lower pair sees what the pair above it has moved.
        Locks wave = Locks.make();
        wave.setValve(0, 3);
        wave.advance(2);
        wave.openGate(0);
        wave.setRain(9);
        wave.setValve(1, 3);
        wave.advance(1);
        // 287 and 166: (6 * 287 - 10 * 166) / 16 = 3; then 169 and 108: 15.
        Check.same("8: in the order of the gates", "284 154 123 72 60", Scenes.volumesOf(wave));
    }

    private static void boatsOfAMinute() {
        Locks locks = Scenes.open();
        locks.addBoat('b', 1, true);
        locks.addBoat('g', 1, true);
        locks.addBoat('r', 1, true);
        locks.addBoat('r', 1, true);
        locks.advance(1);
        Check.same("8: the first red boat", "0 0 1 0", Scenes.basinsOf(locks));
        locks.advance(1);
        Check.same("8: the second red boat", "0 0 2 1", Scenes.basinsOf(locks));
        locks.advance(1);
        Check.same("8: then the green one", "0 1 3 2", Scenes.basinsOf(locks));
        locks.advance(1);
        Check.same("8: then the blue one, the first one has left", "1 2 3", Scenes.basinsOf(locks));
        Check.same("8: who is left", "bgr", "" + locks.colour(0) + locks.colour(1) + locks.colour(2));
        Check.same("8: events", "p0 p1 p2 l1 p0 p1 p2 p0", Scenes.eventsOf(locks));

        Locks both = Scenes.open();
        both.addBoat('g', 2, true);
        both.addBoat('r', 3, false);
        both.advance(2);
        Check.same("8: they meet in the middle", "2 2", Scenes.basinsOf(both));
        both.shutGate(1);
        both.advance(1);
        Check.same("8: a closed gate stops one of them", "3 2", Scenes.basinsOf(both));
        both.advance(1);
        Check.same("8: one left", "2", Scenes.basinsOf(both));
        Check.same("8: its draught", "l2", "" + both.eventKind(0) + both.eventNumber(0));

        // The boats that stay keep their order, with lower indices.
        Locks several = Scenes.open();
        several.addBoat('r', 1, false);
        several.addBoat('b', 2, true);
        several.addBoat('r', 3, true);
        several.addBoat('g', 4, false);
        several.addBoat('g', 5, true);
        Check.same("8: two leave at once", 2, several.advance(4));
        Check.same("8: three stay", "245",
                "" + several.draught(0) + several.draught(1) + several.draught(2));
        Check.same("8: where they are", "0 2 2", Scenes.basinsOf(several));
        Check.same("8: left", "2 0 0", several.leftTotal('r') + " " + several.leftTotal('g') + " "
                + several.leftTotal('b'));

        // One gate, two directions: it serves one boat a minute, and who leaves has passed it too.
        Locks gate = Scenes.open();
        gate.addBoat('g', 1, true);
        gate.advance(3);
        Check.same("8: before the last gate", "3", Scenes.basinsOf(gate));
        gate.addBoat('b', 1, false);
        gate.advance(1);
        Check.same("8: the gate was taken by the one that left", "4", Scenes.basinsOf(gate));
        gate.advance(1);
        Check.same("8: and is free now", "3", Scenes.basinsOf(gate));
    }

    private static void roomOfTheBasins() {
        Locks locks = Scenes.open();
        locks.shutGate(1);
        locks.addBoat('r', 1, true);
        locks.addBoat('r', 1, true);
        locks.addBoat('r', 1, true);
        locks.advance(9);
        Check.same("8: two fit into basin 1", "1 1 0", Scenes.basinsOf(locks));
        locks.openGate(1);
        locks.advance(1);
        Check.same("8: who goes makes room in the same minute", "2 1 1", Scenes.basinsOf(locks));
        Locks late = Scenes.open();
        late.shutGate(1);
        late.addBoat('b', 1, true);
        late.addBoat('b', 1, true);
        late.addBoat('r', 1, true);
        late.advance(1);
        Check.same("8: red first", "0 0 1", Scenes.basinsOf(late));
        late.advance(1);
        late.openGate(1);
        late.addBoat('r', 1, true);
        late.advance(1);
        Check.same("8: basin 1: a red boat goes on, a red one comes in", "1 0 2 1", Scenes.basinsOf(late));
        // Blue in basin 1 moves after the red boat has found no room there.
        Locks full = Scenes.open();
        full.shutGate(1);
        full.addBoat('b', 1, true);
        full.addBoat('b', 1, true);
        full.advance(3);
        full.addBoat('r', 1, true);
        full.openGate(1);
        full.advance(1);
        Check.same("8: no room when it was considered", "2 1 0", Scenes.basinsOf(full));
        Locks ends = Scenes.open();
        for (int boat = 0; boat < 8; boat++) {
            ends.addBoat('r', 1, boat < 4);
        }
        Check.same("8: the end basins have no limit", 4, ends.boatsIn(0));
        Check.same("8: neither of them", 4, ends.boatsIn(4));
        for (int way = 0; way < 2; way++) {
            Locks crowded = Scenes.open();
            crowded.addBoat('r', 1, way == 0);
            crowded.advance(3);
            for (int boat = 0; boat < 4; boat++) {
                crowded.addBoat('b', 1, way != 0);
            }
            Check.same("8: there is room to leave", 1, crowded.advance(1));
        }
        // Up: the basins 3, 2 and 1 in turn.
        Locks up = Scenes.open();
        up.shutGate(2);
        for (int boat = 0; boat < 3; boat++) {
            up.addBoat('g', 1, false);
        }
        up.advance(5);
        Check.same("8: two fit into basin 3", "3 3 4", Scenes.basinsOf(up));
    }

    private static void draughtsAtTheGates() {
        // Basin 4 runs dry behind its gate; the gate opens again when its basins are level.
        Locks locks = Scenes.open();
        locks.setDrain(9);
        locks.advance(60);
        int low = locks.level(4);
        Check.holds("8: low water in basin 4", low >= 1 && low < 9);
        locks.addBoat('r', 9, true);
        locks.advance(200);
        Check.same("8: too low for the boat", "0", Scenes.basinsOf(locks));
    }
}
