/** Locks to begin with, and what the face tells of them, as texts. */
final class Scenes {
    private Scenes() {
    }

    /** Locks whose basins are nearly level, after 200 minutes with all valves wide open. */
    static Locks levelled() {
        Locks locks = Locks.make();
        for (int valve = 0; valve < 4; valve++) {
            locks.setValve(valve, 3);
        }
        locks.advance(200);
        for (int valve = 0; valve < 4; valve++) {
            locks.setValve(valve, 0);
        }
        return locks;
    }

    /** Levelled locks with all gates open. */
    static Locks open() {
        Locks locks = levelled();
        for (int gate = 0; gate < 4; gate++) {
            locks.openGate(gate);
        }
        return locks;
    }

    /** New locks with these openings of the valves. */
    static Locks valves(int... openings) {
        Locks locks = Locks.make();
        for (int valve = 0; valve < 4; valve++) {
            locks.setValve(valve, openings[valve]);
        }
        return locks;
    }

    /** New locks with some weather, after some minutes. */
    static Locks weathered(int rain, int drain, int minutes) {
        Locks locks = Locks.make();
        locks.setRain(rain);
        locks.setDrain(drain);
        return later(locks, minutes);
    }

    static Locks later(Locks locks, int minutes) {
        for (int left = minutes; left > 0; left -= 200) {
            locks.advance(Math.min(left, 200));
        }
        return locks;
    }

    /** All the water that can run off has been drained; all gates are open. */
    static Locks dry() {
        Locks locks = valves(3, 3, 3, 3);
        locks.setDrain(9);
        locks.advance(200);
        locks.setDrain(0);
        for (int gate = 0; gate < 4; gate++) {
            locks.openGate(gate);
        }
        return locks;
    }

    /** All the water that can be held is there; all gates are open and no rain falls. */
    static Locks full() {
        Locks locks = valves(3, 3, 3, 3);
        locks.setRain(9);
        locks.advance(200);
        locks.setRain(0);
        for (int gate = 0; gate < 4; gate++) {
            locks.openGate(gate);
        }
        return locks;
    }

    /**
     * A boat with a draught of 9 waits at a closed gate. The water has been drained, 9 litres a minute
     * and then 1 litre a minute, and has come to rest.
     */
    static Locks lowered(boolean isDown, int gate, int minutesOfNine, int minutesOfOne) {
        Locks locks = open();
        locks.shutGate(gate);
        locks.setValve(gate, 3);
        locks.addBoat('r', 9, isDown);
        locks.advance(4);
        locks.setDrain(9);
        locks.advance(minutesOfNine);
        locks.setDrain(1);
        later(locks, minutesOfOne);
        locks.setDrain(0);
        locks.advance(50);
        return locks;
    }

    /** Open locks with three boats on their way. */
    static Locks onTheirWay() {
        Locks locks = open();
        locks.addBoat('r', 3, true);
        locks.addBoat('g', 9, false);
        locks.addBoat('b', 1, true);
        locks.advance(1);
        return locks;
    }

    /** Everything changes each minute: water is spilled and drained, boats pass and leave. */
    static Locks wet() {
        Locks locks = full();
        locks.setRain(9);
        locks.setDrain(3);
        locks.addBoat('b', 2, true);
        locks.addBoat('g', 8, false);
        locks.addBoat('r', 5, true);
        locks.advance(3);
        locks.addBoat('g', 4, true);
        locks.advance(1);
        return locks;
    }

    static Locks withBoats(int count) {
        Locks locks = Locks.make();
        for (int boat = 0; boat < count; boat++) {
            locks.addBoat("rgb".charAt(boat % 3), 1 + boat, boat % 2 == 0);
        }
        return locks;
    }

    /** Locks in the middle of everything: nothing is as in a new object. */
    static Locks busy() {
        Locks locks = open();
        locks.setRain(2);
        locks.setDrain(1);
        locks.addBoat('r', 3, true);
        locks.addBoat('g', 9, false);
        locks.addBoat('b', 1, true);
        Twins.answer(locks, asking -> run(asking, "wait;x"));
        Twins.answer(locks, asking -> run(asking, "wait;shut 0;shut 0"));
        locks.renderBoat(1);
        locks.save();
        locks.advance(2);
        locks.setValve(1, 2);
        locks.shutGate(2);
        locks.addBoat('r', 2, false);
        locks.advance(1);
        type(locks, "wait 7;rain ");
        return locks;
    }

    static void type(Locks locks, String text) {
        for (int index = 0; index < text.length(); index++) {
            locks.type(text.charAt(index));
        }
    }

    static int run(Locks locks, String text) {
        type(locks, text);
        return locks.runScript();
    }

    static String outputOf(Locks locks, int length) {
        StringBuilder text = new StringBuilder();
        for (int index = 0; index < length; index++) {
            text.append(locks.outputAt(index));
        }
        return text.toString();
    }

    static String volumesOf(Locks locks) {
        StringBuilder text = new StringBuilder();
        for (int basin = 0; basin < 5; basin++) {
            text.append(basin == 0 ? "" : " ").append(locks.volume(basin));
        }
        return text.toString();
    }

    static String basinsOf(Locks locks) {
        StringBuilder text = new StringBuilder();
        for (int boat = 0; boat < locks.boatCount(); boat++) {
            text.append(boat == 0 ? "" : " ").append(locks.basinOf(boat));
        }
        return text.toString();
    }

    /** The remembered events, the latest first. */
    static String eventsOf(Locks locks) {
        StringBuilder text = new StringBuilder();
        for (int recency = 0; recency < locks.eventCount(); recency++) {
            text.append(recency == 0 ? "" : " ");
            text.append(locks.eventKind(recency)).append(locks.eventNumber(recency));
        }
        return text.toString();
    }

    /** All that undo and the snapshot cover, as the face tells it. */
    static String stateOf(Locks locks) {
        StringBuilder text = new StringBuilder();
        text.append("time ").append(locks.time());
        text.append(" volumes ").append(volumesOf(locks));
        text.append(" gates");
        for (int gate = 0; gate < 4; gate++) {
            text.append(' ').append(locks.opening(gate)).append(locks.isOpen(gate));
        }
        text.append(" weather ").append(locks.rain()).append(' ').append(locks.drain());
        text.append(" totals ").append(locks.rainTotal()).append(' ').append(locks.drainTotal());
        text.append(' ').append(locks.spilledTotal());
        text.append(" boats");
        for (int boat = 0; boat < locks.boatCount(); boat++) {
            text.append(' ').append(locks.colour(boat)).append(locks.draught(boat));
            text.append(locks.isGoingDown(boat)).append(locks.basinOf(boat));
        }
        text.append(" left ").append(locks.leftTotal('r')).append(' ').append(locks.leftTotal('g'));
        text.append(' ').append(locks.leftTotal('b'));
        return text.append(" events ").append(eventsOf(locks)).toString();
    }
}
