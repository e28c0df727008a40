import java.util.NoSuchElementException;

/**
 * A flight of canal locks for toy boats: five basins, four valves and gates between them, rain, a
 * drain, and boats that pass the open gates. README.md tells how to use it.
 */
public final class CanalLocks {
    private static final int BASINS = 5;
    private static final int BOTTOM = BASINS - 1;
    private static final int GATES = BASINS - 1;
    private static final int END_AREA = 10;
    private static final int MIDDLE_AREA = 6;
    private static final int TOTAL_AREA = 2 * END_AREA + (BASINS - 2) * MIDDLE_AREA;
    private static final int LEVEL_LIMIT = 40;
    private static final int OPENING_LIMIT = 3;
    private static final int LITRES_A_STEP = 5;
    private static final int WEATHER_LIMIT = 9;
    private static final int BOAT_LIMIT = 8;
    private static final int DRAUGHT_LIMIT = 9;
    private static final int ROOM = 2;
    private static final int COLOURS = 3;
    private static final int EVENT_LIMIT = 8;
    private static final int UNDO_LIMIT = 8;
    private static final int MINUTE_LIMIT = 200;
    private static final int SCRIPT_LIMIT = 60;
    private static final int NUMBER_DIGITS = 3;
    private static final int NONE = -1;
    private static final int[] START_VOLUMES = {300, 144, 108, 72, 60};
    private static final char[] COLOUR_SIGNS = {'r', 'g', 'b'};
    private static final String DIGITS = "0123456789";

    // The kinds of changes are the first letters of the commands that stand for them.
    private static final int BOAT = 'b';
    private static final int VALVE = 'v';
    private static final int OPEN = 'o';
    private static final int SHUT = 's';
    private static final int RAIN = 'r';
    private static final int DRAIN = 'd';
    private static final int WAIT = 'w';

    private static final int FINE = 0;
    private static final int BAD_INDEX = 1;
    private static final int BAD_ARGUMENT = 2;
    private static final int BAD_STATE = 3;
    private static final int UNEQUAL_LEVELS = 4;

    private final Flight now = new Flight();
    // Predictions and scripts play on this one, so that no call has to make another state.
    private final Flight trial = new Flight();
    private final Flight snapshot = new Flight();
    private boolean hasSnapshot = false;
    private final History history = new History();
    private final Script script = new Script();
    private final StringBuilder output = new StringBuilder();
    private int latestErrorPosition = NONE;
    private int latestFailedCommand = NONE;

    public CanalLocks() {
    }

    // Changes.

    public int addBoat(char colour, int draught, boolean isGoingDown)
            throws IllegalArgumentException, IllegalStateException {
        beginChange(BOAT, colour, draught);
        return now.act(BOAT, colour, draught, isGoingDown ? 1 : 0);
    }

    public int setValve(int valve, int opening)
            throws IndexOutOfBoundsException, IllegalArgumentException {
        beginChange(VALVE, valve, opening);
        return now.act(VALVE, valve, opening, 0);
    }

    public int openGate(int gate)
            throws IndexOutOfBoundsException, IllegalStateException, UnsupportedOperationException {
        beginChange(OPEN, gate, 0);
        return now.act(OPEN, gate, 0, 0);
    }

    public int shutGate(int gate) throws IndexOutOfBoundsException, IllegalStateException {
        beginChange(SHUT, gate, 0);
        return now.act(SHUT, gate, 0, 0);
    }

    public int setRain(int litres) throws IllegalArgumentException {
        beginChange(RAIN, litres, 0);
        return now.act(RAIN, litres, 0, 0);
    }

    public int setDrain(int litres) throws IllegalArgumentException {
        beginChange(DRAIN, litres, 0);
        return now.act(DRAIN, litres, 0, 0);
    }

    public int advance(int minutes) throws IllegalArgumentException {
        beginChange(WAIT, minutes, 0);
        return now.act(WAIT, minutes, 0, 0);
    }

    // Water.

    public int area(int basin) throws IndexOutOfBoundsException {
        needBasin(basin);
        return areaOf(basin);
    }

    public int volume(int basin) throws IndexOutOfBoundsException {
        needBasin(basin);
        return now.water.volumes[basin];
    }

    public int level(int basin) throws IndexOutOfBoundsException {
        needBasin(basin);
        return now.water.roundedLevel(basin);
    }

    public double exactLevel(int basin) throws IndexOutOfBoundsException {
        needBasin(basin);
        return (double) now.water.volumes[basin] / (double) areaOf(basin);
    }

    public boolean isHigher(int first, int second) throws IndexOutOfBoundsException {
        needBasin(first);
        needBasin(second);
        return now.water.difference(first, second) > 0;
    }

    public int equalizingAmount(int gate) throws IndexOutOfBoundsException {
        needGate(gate);
        return now.water.amountByDivision(gate);
    }

    public int equalizingAmountByLitres(int gate) throws IndexOutOfBoundsException {
        needGate(gate);
        return now.water.amountByLitres(gate);
    }

    public int opening(int valve) throws IndexOutOfBoundsException {
        needGate(valve);
        return now.water.openings[valve];
    }

    public boolean isOpen(int gate) throws IndexOutOfBoundsException {
        needGate(gate);
        return now.water.gates[gate];
    }

    public int flow(int gate) throws IndexOutOfBoundsException {
        needGate(gate);
        return now.water.flowDown(gate);
    }

    public int rain() {
        return now.water.rain;
    }

    public int drain() {
        return now.water.drain;
    }

    public int totalVolume() {
        return now.water.sumOfVolumes();
    }

    public int totalVolumeByAccounts() {
        return now.water.sumByAccounts();
    }

    public int rainTotal() {
        return now.water.rained;
    }

    public int drainTotal() {
        return now.water.drained;
    }

    public int spilledTotal() {
        return now.water.spilled;
    }

    public int basinByLevel(int rank) throws NoSuchElementException {
        for (int basin = 0; basin < BASINS; basin++) {
            if (now.water.rankOfBasin(basin) == rank) {
                return basin;
            }
        }
        throw new NoSuchElementException("no such rank");
    }

    // Boats.

    public int boatCount() {
        return now.fleet.count;
    }

    public char colour(int boat) throws IndexOutOfBoundsException {
        needBoat(boat);
        return now.fleet.signOf(boat);
    }

    public int draught(int boat) throws IndexOutOfBoundsException {
        needBoat(boat);
        return now.fleet.draughts[boat];
    }

    public boolean isGoingDown(int boat) throws IndexOutOfBoundsException {
        needBoat(boat);
        return now.fleet.goesDown[boat];
    }

    public int basinOf(int boat) throws IndexOutOfBoundsException {
        needBoat(boat);
        return now.fleet.basins[boat];
    }

    public int boatsIn(int basin) throws IndexOutOfBoundsException {
        needBasin(basin);
        return now.fleet.countIn(basin);
    }

    public int boatInOrder(int rank) throws NoSuchElementException {
        for (int boat = 0; boat < now.fleet.count; boat++) {
            if (now.fleet.rankOfBoat(boat) == rank) {
                return boat;
            }
        }
        throw new NoSuchElementException("no such rank");
    }

    public boolean floats(int boat, int basin) throws IndexOutOfBoundsException {
        needBoat(boat);
        needBasin(basin);
        return now.water.reaches(basin, now.fleet.draughts[boat]);
    }

    public int leftTotal(char colour) throws IllegalArgumentException {
        int number = colourNumber(colour);
        if (number == NONE) {
            throw new IllegalArgumentException("no such colour");
        }
        return now.fleet.left[number];
    }

    public int minutesUntilLeaving(int boat) throws IndexOutOfBoundsException, NoSuchElementException {
        needBoat(boat);
        int serial = now.fleet.serials[boat];
        trial.copyFrom(now);
        for (int minutes = 1; minutes <= MINUTE_LIMIT; minutes++) {
            trial.passMinutes(1);
            if (!trial.fleet.hasSerial(serial)) {
                return minutes;
            }
        }
        throw new NoSuchElementException("the boat does not leave within 200 minutes");
    }

    public int minutesUntilEqual(int gate) throws IndexOutOfBoundsException, NoSuchElementException {
        needGate(gate);
        trial.copyFrom(now);
        for (int minutes = 0; minutes <= MINUTE_LIMIT; minutes++) {
            if (trial.water.amountByDivision(gate) == 0) {
                return minutes;
            }
            trial.passMinutes(1);
        }
        throw new NoSuchElementException("the basins are not equalized within 200 minutes");
    }

    public int volumeAfter(int basin, int minutes)
            throws IndexOutOfBoundsException, IllegalArgumentException {
        needBasin(basin);
        if (minutes < 0 || minutes > MINUTE_LIMIT) {
            throw new IllegalArgumentException("the minutes are not between 0 and 200");
        }
        trial.copyFrom(now);
        trial.passMinutes(minutes);
        return trial.water.volumes[basin];
    }

    // Events, totals, checks.

    public int eventCount() {
        return now.events.count;
    }

    public char eventKind(int recency) throws NoSuchElementException {
        needEvent(recency);
        return now.events.kinds[now.events.placeOf(recency)];
    }

    public int eventNumber(int recency) throws NoSuchElementException {
        needEvent(recency);
        return now.events.numbers[now.events.placeOf(recency)];
    }

    public int time() {
        return now.time;
    }

    public float meanLevel() {
        return (float) now.water.sumOfVolumes() / (float) TOTAL_AREA;
    }

    public boolean isConsistent() {
        return now.water.amountsAgree()
                && now.water.sumOfVolumes() == now.water.sumByAccounts()
                && now.water.isWithinLimits()
                && now.fleet.isWithinRoom();
    }

    // Output and scripts.

    public int renderLevels() {
        output.setLength(0);
        for (int basin = 0; basin < BASINS; basin++) {
            if (basin > 0) {
                output.append(now.water.gates[basin - 1] ? '/' : '|');
            }
            output.append(now.water.roundedLevel(basin));
        }
        return output.length();
    }

    public int renderBoat(int boat) throws IndexOutOfBoundsException {
        needBoat(boat);
        output.setLength(0);
        output.append(now.fleet.signOf(boat));
        output.append(now.fleet.draughts[boat]);
        output.append(now.fleet.goesDown[boat] ? 'v' : '^');
        output.append(now.fleet.basins[boat]);
        return output.length();
    }

    public char outputAt(int index) throws IndexOutOfBoundsException {
        if (index < 0 || index >= output.length()) {
            throw new IndexOutOfBoundsException("no such character of the output text");
        }
        return output.charAt(index);
    }

    public int type(char character) throws IllegalArgumentException, IllegalStateException {
        if (character < 32 || character > 126) {
            throw new IllegalArgumentException("the character code is not between 32 and 126");
        }
        if (script.length >= SCRIPT_LIMIT) {
            throw new IllegalStateException("the script buffer is full");
        }
        script.text[script.length] = character;
        script.length++;
        return script.length;
    }

    public int runScript() throws IllegalArgumentException, IllegalStateException {
        boolean hasForm = script.readAll();
        script.length = 0;
        if (!hasForm) {
            latestErrorPosition = script.position;
            throw new IllegalArgumentException("the script does not have the required form");
        }
        trial.copyFrom(now);
        for (int command = 0; command < script.count; command++) {
            int kind = script.kinds[command];
            int first = script.firsts[command];
            int second = script.seconds[command];
            if (trial.faultOf(kind, first, second) != FINE) {
                latestFailedCommand = command;
                throw new IllegalStateException("a command of the script failed");
            }
            trial.act(kind, first, second, script.thirds[command]);
        }
        history.push(now);
        now.copyFrom(trial);
        return script.count;
    }

    public int errorPosition() throws NoSuchElementException {
        if (latestErrorPosition == NONE) {
            throw new NoSuchElementException("no script lacked the required form");
        }
        return latestErrorPosition;
    }

    public int failedCommand() throws NoSuchElementException {
        if (latestFailedCommand == NONE) {
            throw new NoSuchElementException("no script had a failed command");
        }
        return latestFailedCommand;
    }

    public int undo() throws NoSuchElementException {
        if (history.count == 0) {
            throw new NoSuchElementException("there is nothing to undo");
        }
        history.popInto(now);
        return history.count;
    }

    public int save() {
        snapshot.copyFrom(now);
        hasSnapshot = true;
        return now.fleet.count;
    }

    public int restore() throws IllegalStateException {
        if (!hasSnapshot) {
            throw new IllegalStateException("there is no snapshot");
        }
        now.copyFrom(snapshot);
        history.count = 0;
        return now.fleet.count;
    }

    // What the methods above share.

    private void beginChange(int kind, int first, int second) {
        refuse(now.faultOf(kind, first, second));
        history.push(now);
    }

    private static void refuse(int fault) {
        if (fault == BAD_INDEX) {
            throw new IndexOutOfBoundsException("no such valve or gate");
        }
        if (fault == BAD_ARGUMENT) {
            throw new IllegalArgumentException("no such colour, draught, opening, litres or minutes");
        }
        if (fault == BAD_STATE) {
            throw new IllegalStateException("the boats or the gate do not allow this now");
        }
        if (fault == UNEQUAL_LEVELS) {
            throw new UnsupportedOperationException("the equalizing amount is not 0");
        }
    }

    private static void needBasin(int basin) {
        if (basin < 0 || basin >= BASINS) {
            throw new IndexOutOfBoundsException("no such basin");
        }
    }

    private static void needGate(int gate) {
        if (!isGate(gate)) {
            throw new IndexOutOfBoundsException("no such valve or gate");
        }
    }

    private void needBoat(int boat) {
        if (boat < 0 || boat >= now.fleet.count) {
            throw new IndexOutOfBoundsException("no such boat");
        }
    }

    private void needEvent(int recency) {
        if (recency < 0 || recency >= now.events.count) {
            throw new NoSuchElementException("no such event");
        }
    }

    private static boolean isGate(int gate) {
        return gate >= 0 && gate < GATES;
    }

    private static int areaOf(int basin) {
        return basin == 0 || basin == BOTTOM ? END_AREA : MIDDLE_AREA;
    }

    private static int colourNumber(int sign) {
        for (int number = 0; number < COLOURS; number++) {
            if (COLOUR_SIGNS[number] == sign) {
                return number;
            }
        }
        return NONE;
    }

    /** The basins, valves and gates, with the weather and the accounts of the water. */
    private static final class Water {
        final int[] volumes = new int[BASINS];
        final int[] openings = new int[GATES];
        final boolean[] gates = new boolean[GATES];
        int rain = 0;
        int drain = 0;
        int rained = 0;
        int drained = 0;
        int spilled = 0;

        Water() {
            for (int basin = 0; basin < BASINS; basin++) {
                volumes[basin] = START_VOLUMES[basin];
            }
        }

        void copyWater(Water other) {
            for (int basin = 0; basin < BASINS; basin++) {
                volumes[basin] = other.volumes[basin];
            }
            for (int gate = 0; gate < GATES; gate++) {
                openings[gate] = other.openings[gate];
                gates[gate] = other.gates[gate];
            }
            rain = other.rain;
            drain = other.drain;
            rained = other.rained;
            drained = other.drained;
            spilled = other.spilled;
        }

        int roundedLevel(int basin) {
            return volumes[basin] / areaOf(basin);
        }

        /** The difference of two exact levels, times both areas: whole numbers compare exactly. */
        int difference(int first, int second) {
            return volumes[first] * areaOf(second) - volumes[second] * areaOf(first);
        }

        boolean reaches(int basin, int height) {
            return volumes[basin] >= height * areaOf(basin);
        }

        int amountByDivision(int gate) {
            return Math.abs(difference(gate, gate + 1)) / (areaOf(gate) + areaOf(gate + 1));
        }

        int amountByLitres(int gate) {
            boolean isDown = difference(gate, gate + 1) > 0;
            int from = isDown ? gate : gate + 1;
            int to = isDown ? gate + 1 : gate;
            int litres = 0;
            while (litres < volumes[from] && staysBelow(from, to, litres + 1)) {
                litres++;
            }
            return litres;
        }

        private boolean staysBelow(int from, int to, int litres) {
            return (volumes[to] + litres) * areaOf(from) <= (volumes[from] - litres) * areaOf(to);
        }

        /** The litres that flow to the lower basin, negative if they flow to the upper one. */
        int flowDown(int gate) {
            int litres = amountByDivision(gate);
            if (!gates[gate]) {
                litres = Math.min(litres, LITRES_A_STEP * openings[gate]);
            }
            return difference(gate, gate + 1) > 0 ? litres : -litres;
        }

        /** Nothing is spilled here: the basin that receives stays below the one that gives. */
        void moveDown(int gate, int litres) {
            volumes[gate] -= litres;
            volumes[gate + 1] += litres;
        }

        int letRain() {
            int room = LEVEL_LIMIT * END_AREA - volumes[0];
            int kept = Math.min(rain, room);
            volumes[0] += kept;
            rained += rain;
            spilled += rain - kept;
            return rain - kept;
        }

        void letDrain() {
            int taken = Math.min(drain, volumes[BOTTOM]);
            volumes[BOTTOM] -= taken;
            drained += taken;
        }

        int sumOfVolumes() {
            int sum = 0;
            for (int basin = 0; basin < BASINS; basin++) {
                sum += volumes[basin];
            }
            return sum;
        }

        int sumByAccounts() {
            int sum = rained - drained - spilled;
            for (int basin = 0; basin < BASINS; basin++) {
                sum += START_VOLUMES[basin];
            }
            return sum;
        }

        int openGateCount() {
            int count = 0;
            for (int gate = 0; gate < GATES; gate++) {
                count += gates[gate] ? 1 : 0;
            }
            return count;
        }

        int rankOfBasin(int basin) {
            int rank = 0;
            for (int other = 0; other < BASINS; other++) {
                int lead = difference(other, basin);
                if (lead > 0 || lead == 0 && other < basin) {
                    rank++;
                }
            }
            return rank;
        }

        boolean amountsAgree() {
            for (int gate = 0; gate < GATES; gate++) {
                if (amountByDivision(gate) != amountByLitres(gate)) {
                    return false;
                }
            }
            return true;
        }

        boolean isWithinLimits() {
            for (int basin = 0; basin < BASINS; basin++) {
                if (volumes[basin] > LEVEL_LIMIT * areaOf(basin)) {
                    return false;
                }
            }
            return true;
        }
    }

    /** The boats in the order of their indices, and how many of each colour have left. */
    private static final class Fleet {
        int count = 0;
        int added = 0;
        final int[] colours = new int[BOAT_LIMIT];
        final int[] draughts = new int[BOAT_LIMIT];
        final boolean[] goesDown = new boolean[BOAT_LIMIT];
        final int[] basins = new int[BOAT_LIMIT];
        // A boat's index changes when others leave; its serial number is how to find it again.
        final int[] serials = new int[BOAT_LIMIT];
        final int[] left = new int[COLOURS];

        void copyFleet(Fleet other) {
            count = other.count;
            added = other.added;
            for (int boat = 0; boat < BOAT_LIMIT; boat++) {
                copyBoat(other, boat, boat);
            }
            for (int colour = 0; colour < COLOURS; colour++) {
                left[colour] = other.left[colour];
            }
        }

        int put(int colour, int draught, boolean isDown) {
            if (count >= BOAT_LIMIT) {
                return NONE;
            }
            colours[count] = colour;
            draughts[count] = draught;
            goesDown[count] = isDown;
            basins[count] = isDown ? 0 : BOTTOM;
            serials[count] = added;
            added++;
            count++;
            return count - 1;
        }

        char signOf(int boat) {
            return COLOUR_SIGNS[colours[boat]];
        }

        int countIn(int basin) {
            int found = 0;
            for (int boat = 0; boat < count; boat++) {
                found += basins[boat] == basin ? 1 : 0;
            }
            return found;
        }

        boolean hasRoom(int basin) {
            return basin == 0 || basin == BOTTOM || countIn(basin) < ROOM;
        }

        boolean isWithinRoom() {
            for (int basin = 1; basin < BOTTOM; basin++) {
                if (countIn(basin) > ROOM) {
                    return false;
                }
            }
            return true;
        }

        int rankOfBoat(int boat) {
            int rank = 0;
            for (int other = 0; other < count; other++) {
                boolean isSameColour = colours[other] == colours[boat];
                if (colours[other] < colours[boat] || isSameColour && other < boat) {
                    rank++;
                }
            }
            return rank;
        }

        boolean hasSerial(int serial) {
            for (int boat = 0; boat < count; boat++) {
                if (serials[boat] == serial) {
                    return true;
                }
            }
            return false;
        }

        int gateAhead(int boat) {
            return goesDown[boat] ? basins[boat] : basins[boat] - 1;
        }

        int basinAhead(int boat) {
            return goesDown[boat] ? basins[boat] + 1 : basins[boat] - 1;
        }

        boolean hasArrived(int boat) {
            return basins[boat] == (goesDown[boat] ? BOTTOM : 0);
        }

        int removeArrived() {
            int kept = 0;
            for (int boat = 0; boat < count; boat++) {
                if (!hasArrived(boat)) {
                    copyBoat(this, boat, kept);
                    kept++;
                }
            }
            int removed = count - kept;
            count = kept;
            return removed;
        }

        private void copyBoat(Fleet source, int from, int to) {
            colours[to] = source.colours[from];
            draughts[to] = source.draughts[from];
            goesDown[to] = source.goesDown[from];
            basins[to] = source.basins[from];
            serials[to] = source.serials[from];
        }
    }

    /** The latest events, in a ring. */
    private static final class EventLog {
        final char[] kinds = new char[EVENT_LIMIT];
        final int[] numbers = new int[EVENT_LIMIT];
        int next = 0;
        int count = 0;

        void copyEvents(EventLog other) {
            for (int place = 0; place < EVENT_LIMIT; place++) {
                kinds[place] = other.kinds[place];
                numbers[place] = other.numbers[place];
            }
            next = other.next;
            count = other.count;
        }

        void note(char kind, int number) {
            kinds[next] = kind;
            numbers[next] = number;
            next = (next + 1) % EVENT_LIMIT;
            count = Math.min(count + 1, EVENT_LIMIT);
        }

        int placeOf(int recency) {
            return Math.floorMod(next - 1 - recency, EVENT_LIMIT);
        }
    }

    /** The whole state that undo and the snapshot cover, and what changes it. */
    private static final class Flight {
        final Water water = new Water();
        final Fleet fleet = new Fleet();
        final EventLog events = new EventLog();
        int time = 0;

        void copyFrom(Flight other) {
            water.copyWater(other.water);
            fleet.copyFleet(other.fleet);
            events.copyEvents(other.events);
            time = other.time;
        }

        /** What forbids a change; the face and the scripts ask here before they act. */
        int faultOf(int kind, int first, int second) {
            switch (kind) {
                case BOAT:
                    return faultOfBoat(first, second);
                case VALVE:
                    return faultOfValve(first, second);
                case OPEN:
                    return faultOfOpening(first);
                case SHUT:
                    return faultOfShutting(first);
                case RAIN:
                case DRAIN:
                    return first < 0 || first > WEATHER_LIMIT ? BAD_ARGUMENT : FINE;
                default:
                    return first < 1 || first > MINUTE_LIMIT ? BAD_ARGUMENT : FINE;
            }
        }

        private int faultOfBoat(int colour, int draught) {
            if (colourNumber(colour) == NONE || draught < 1 || draught > DRAUGHT_LIMIT) {
                return BAD_ARGUMENT;
            }
            return fleet.count >= BOAT_LIMIT ? BAD_STATE : FINE;
        }

        private int faultOfValve(int valve, int opening) {
            if (!isGate(valve)) {
                return BAD_INDEX;
            }
            return opening < 0 || opening > OPENING_LIMIT ? BAD_ARGUMENT : FINE;
        }

        private int faultOfOpening(int gate) {
            if (!isGate(gate)) {
                return BAD_INDEX;
            }
            if (water.gates[gate]) {
                return BAD_STATE;
            }
            return water.amountByDivision(gate) != 0 ? UNEQUAL_LEVELS : FINE;
        }

        private int faultOfShutting(int gate) {
            if (!isGate(gate)) {
                return BAD_INDEX;
            }
            return water.gates[gate] ? FINE : BAD_STATE;
        }

        /** Makes a change that has no fault; answers what the face's method for it returns. */
        int act(int kind, int first, int second, int third) {
            switch (kind) {
                case BOAT:
                    return fleet.put(colourNumber(first), second, third == 1);
                case VALVE:
                    return turnValve(first, second);
                case OPEN:
                    return moveGate(first, true);
                case SHUT:
                    return moveGate(first, false);
                case RAIN:
                    return changeRain(first);
                case DRAIN:
                    return changeDrain(first);
                default:
                    return passMinutes(first);
            }
        }

        private int turnValve(int valve, int opening) {
            int previous = water.openings[valve];
            water.openings[valve] = opening;
            return previous;
        }

        private int moveGate(int gate, boolean isToBeOpen) {
            water.gates[gate] = isToBeOpen;
            return water.openGateCount();
        }

        private int changeRain(int litres) {
            int previous = water.rain;
            water.rain = litres;
            return previous;
        }

        private int changeDrain(int litres) {
            int previous = water.drain;
            water.drain = litres;
            return previous;
        }

        /** Answers how many boats leave in these minutes. */
        int passMinutes(int minutes) {
            int leaving = 0;
            for (int passed = 0; passed < minutes; passed++) {
                time++;
                passWeather();
                for (int gate = 0; gate < GATES; gate++) {
                    water.moveDown(gate, water.flowDown(gate));
                }
                passGates();
                leaving += fleet.removeArrived();
            }
            return leaving;
        }

        private void passWeather() {
            int spilled = water.letRain();
            if (spilled > 0) {
                events.note('s', spilled);
            }
            water.letDrain();
        }

        /** Boats that arrive stay in their rows until all have been considered: no index moves. */
        private void passGates() {
            int passedGates = 0;
            for (int colour = 0; colour < COLOURS; colour++) {
                for (int boat = 0; boat < fleet.count; boat++) {
                    if (fleet.colours[boat] == colour && mayPass(boat, passedGates)) {
                        passedGates |= 1 << fleet.gateAhead(boat);
                        pass(boat);
                    }
                }
            }
        }

        private boolean mayPass(int boat, int passedGates) {
            int gate = fleet.gateAhead(boat);
            int basin = fleet.basinAhead(boat);
            return isGate(gate)
                    && water.gates[gate]
                    && (passedGates & 1 << gate) == 0
                    && fleet.hasRoom(basin)
                    && water.reaches(basin, fleet.draughts[boat]);
        }

        private void pass(int boat) {
            int gate = fleet.gateAhead(boat);
            fleet.basins[boat] = fleet.basinAhead(boat);
            if (fleet.hasArrived(boat)) {
                fleet.left[fleet.colours[boat]]++;
                events.note('l', fleet.draughts[boat]);
            } else {
                events.note('p', gate);
            }
        }
    }

    /** The states before the latest changes, in a ring. */
    private static final class History {
        final Flight[] flights = new Flight[UNDO_LIMIT];
        int next = 0;
        int count = 0;

        History() {
            for (int place = 0; place < UNDO_LIMIT; place++) {
                flights[place] = new Flight();
            }
        }

        void push(Flight flight) {
            flights[next].copyFrom(flight);
            next = (next + 1) % UNDO_LIMIT;
            count = Math.min(count + 1, UNDO_LIMIT);
        }

        void popInto(Flight flight) {
            next = (next + UNDO_LIMIT - 1) % UNDO_LIMIT;
            flight.copyFrom(flights[next]);
            count--;
        }
    }

    /**
     * The script buffer and its commands. The commands differ in their first letters, so reading
     * never goes back, and where it stops is the error position.
     */
    private static final class Script {
        final char[] text = new char[SCRIPT_LIMIT];
        int length = 0;
        int position = 0;
        private char latest = 0;
        int count = 0;
        final int[] kinds = new int[SCRIPT_LIMIT];
        final int[] firsts = new int[SCRIPT_LIMIT];
        final int[] seconds = new int[SCRIPT_LIMIT];
        final int[] thirds = new int[SCRIPT_LIMIT];

        /** Reads the buffer's text; answers whether it has the form of a script. */
        boolean readAll() {
            position = 0;
            count = 0;
            while (count < SCRIPT_LIMIT && readCommand()) {
                count++;
                if (position == length) {
                    return true;
                }
                if (!readOneOf(";")) {
                    return false;
                }
            }
            return false;
        }

        private boolean readCommand() {
            if (position >= length) {
                return false;
            }
            kinds[count] = text[position];
            switch (kinds[count]) {
                case BOAT:
                    return readBoat();
                case VALVE:
                    return readValve();
                case OPEN:
                    return readWord("open ") && readFirst();
                case SHUT:
                    return readWord("shut ") && readFirst();
                case RAIN:
                    return readWord("rain ") && readFirst();
                case DRAIN:
                    return readWord("drain ") && readFirst();
                case WAIT:
                    return readWait();
                default:
                    return false;
            }
        }

        private boolean readBoat() {
            if (!readWord("boat ") || !readOneOf("rgb")) {
                return false;
            }
            firsts[count] = latest;
            if (!readOneOf(DIGITS)) {
                return false;
            }
            seconds[count] = latest - '0';
            if (!readOneOf(" ") || !readOneOf("du")) {
                return false;
            }
            thirds[count] = latest == 'd' ? 1 : 0;
            return true;
        }

        private boolean readValve() {
            if (!readWord("valve ") || !readFirst() || !readOneOf(" ") || !readOneOf(DIGITS)) {
                return false;
            }
            seconds[count] = latest - '0';
            return true;
        }

        private boolean readFirst() {
            if (!readOneOf(DIGITS)) {
                return false;
            }
            firsts[count] = latest - '0';
            return true;
        }

        private boolean readWait() {
            if (!readWord("wait")) {
                return false;
            }
            firsts[count] = 1;
            if (!readOneOf(" ")) {
                return true;
            }
            if (!readFirst()) {
                return false;
            }
            for (int digits = 1; digits < NUMBER_DIGITS && readOneOf(DIGITS); digits++) {
                firsts[count] = 10 * firsts[count] + latest - '0';
            }
            return true;
        }

        private boolean readWord(String word) {
            for (int index = 0; index < word.length(); index++) {
                if (position >= length || text[position] != word.charAt(index)) {
                    return false;
                }
                position++;
            }
            return true;
        }

        private boolean readOneOf(String signs) {
            if (position >= length || signs.indexOf(text[position]) < 0) {
                return false;
            }
            latest = text[position];
            position++;
            return true;
        }
    }
}
