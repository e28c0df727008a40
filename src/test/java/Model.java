import java.util.ArrayList;
import java.util.List;
import java.util.regex.Matcher;
import java.util.regex.Pattern;

/**
 * The document once more, in the slowest and plainest way: whole copies of the state, lists of
 * boats and events, litres counted one by one, scripts by a regular expression. A method answers a
 * text: the answer, or the name of the exception.
 */
final class Model {
    private static final int[] AREAS = {10, 6, 6, 6, 10};
    private static final String INDEX = "IndexOutOfBoundsException";
    private static final String ARGUMENT = "IllegalArgumentException";
    private static final String STATE = "IllegalStateException";
    private static final String UNSUPPORTED = "UnsupportedOperationException";
    private static final String NO_ELEMENT = "NoSuchElementException";
    private static final String COMMAND = "(?:boat [rgb][0-9] [du]|valve [0-9] [0-9]"
            + "|(?:open|shut|rain|drain) [0-9]|wait(?: [0-9][0-9]?[0-9]?)?)";
    private static final Pattern SCRIPT = Pattern.compile(COMMAND + "(?:;" + COMMAND + ")*");

    private static final class Boat {
        char colour;
        int draught;
        boolean isDown;
        int basin;
        boolean hasLeft = false;

        Boat copy() {
            Boat boat = new Boat();
            boat.colour = colour;
            boat.draught = draught;
            boat.isDown = isDown;
            boat.basin = basin;
            return boat;
        }
    }

    private static final class State {
        int time = 0;
        int rain = 0;
        int drain = 0;
        int rained = 0;
        int drained = 0;
        int spilled = 0;
        int[] volumes = {300, 144, 108, 72, 60};
        int[] openings = {0, 0, 0, 0};
        boolean[] open = {false, false, false, false};
        List<Boat> boats = new ArrayList<>();
        List<String> left = new ArrayList<>();
        List<String> events = new ArrayList<>();

        State copy() {
            State state = new State();
            state.time = time;
            state.rain = rain;
            state.drain = drain;
            state.rained = rained;
            state.drained = drained;
            state.spilled = spilled;
            state.volumes = volumes.clone();
            state.openings = openings.clone();
            state.open = open.clone();
            for (Boat boat : boats) {
                state.boats.add(boat.copy());
            }
            state.left = new ArrayList<>(left);
            state.events = new ArrayList<>(events);
            return state;
        }

        void note(String event) {
            events.add(0, event);
            while (events.size() > 8) {
                events.remove(8);
            }
        }

        boolean isHigher(int first, int second) {
            return volumes[first] * AREAS[second] > volumes[second] * AREAS[first];
        }

        int amount(int gate) {
            int high = isHigher(gate, gate + 1) ? gate : gate + 1;
            int low = 2 * gate + 1 - high;
            int litres = 0;
            int[] kept = volumes.clone();
            while (true) {
                volumes[high]--;
                volumes[low]++;
                if (isHigher(low, high)) {
                    break;
                }
                litres++;
            }
            volumes = kept;
            return litres;
        }

        int flow(int gate) {
            int litres = open[gate] ? amount(gate) : Math.min(amount(gate), 5 * openings[gate]);
            return isHigher(gate, gate + 1) ? litres : -litres;
        }

        int boatsIn(int basin) {
            int count = 0;
            for (Boat boat : boats) {
                count += boat.basin == basin ? 1 : 0;
            }
            return count;
        }

        List<Boat> order() {
            List<Boat> order = new ArrayList<>();
            for (char colour : "rgb".toCharArray()) {
                for (Boat boat : boats) {
                    if (boat.colour == colour) {
                        order.add(boat);
                    }
                }
            }
            return order;
        }

        int minute() {
            time++;
            for (int litre = 0; litre < rain; litre++) {
                volumes[0]++;
                rained++;
            }
            if (volumes[0] > 400) {
                note("s" + (volumes[0] - 400));
                spilled += volumes[0] - 400;
                volumes[0] = 400;
            }
            for (int litre = 0; litre < drain && volumes[4] > 0; litre++) {
                volumes[4]--;
                drained++;
            }
            for (int gate = 0; gate < 4; gate++) {
                int litres = flow(gate);
                volumes[gate] -= litres;
                volumes[gate + 1] += litres;
            }
            return pass();
        }

        int pass() {
            int leaving = 0;
            boolean[] isPassed = new boolean[4];
            for (Boat boat : order()) {
                int to = boat.isDown ? boat.basin + 1 : boat.basin - 1;
                int gate = Math.min(boat.basin, to);
                boolean hasRoom = to == 0 || to == 4 || boatsIn(to) < 2;
                boolean isDeep = (double) volumes[to] / AREAS[to] >= boat.draught;
                if (!open[gate] || isPassed[gate] || !hasRoom || !isDeep) {
                    continue;
                }
                isPassed[gate] = true;
                boat.basin = to;
                if (to == (boat.isDown ? 4 : 0)) {
                    boats.remove(boat);
                    boat.hasLeft = true;
                    left.add("" + boat.colour);
                    note("l" + boat.draught);
                    leaving++;
                } else {
                    note("p" + gate);
                }
            }
            return leaving;
        }

        String addBoat(char colour, int draught, boolean isDown) {
            if ("rgb".indexOf(colour) < 0 || draught < 1 || draught > 9) {
                return ARGUMENT;
            }
            if (boats.size() == 8) {
                return STATE;
            }
            Boat boat = new Boat();
            boat.colour = colour;
            boat.draught = draught;
            boat.isDown = isDown;
            boat.basin = isDown ? 0 : 4;
            boats.add(boat);
            return "" + (boats.size() - 1);
        }

        String setValve(int valve, int opening) {
            if (valve < 0 || valve > 3) {
                return INDEX;
            }
            if (opening < 0 || opening > 3) {
                return ARGUMENT;
            }
            int previous = openings[valve];
            openings[valve] = opening;
            return "" + previous;
        }

        String openGate(int gate) {
            if (gate < 0 || gate > 3) {
                return INDEX;
            }
            if (open[gate]) {
                return STATE;
            }
            if (amount(gate) != 0) {
                return UNSUPPORTED;
            }
            open[gate] = true;
            return "" + openGates();
        }

        String shutGate(int gate) {
            if (gate < 0 || gate > 3) {
                return INDEX;
            }
            if (!open[gate]) {
                return STATE;
            }
            open[gate] = false;
            return "" + openGates();
        }

        int openGates() {
            int count = 0;
            for (boolean isOpen : open) {
                count += isOpen ? 1 : 0;
            }
            return count;
        }

        String setRain(int litres) {
            int previous = rain;
            if (litres < 0 || litres > 9) {
                return ARGUMENT;
            }
            rain = litres;
            return "" + previous;
        }

        String setDrain(int litres) {
            int previous = drain;
            if (litres < 0 || litres > 9) {
                return ARGUMENT;
            }
            drain = litres;
            return "" + previous;
        }

        String advance(int minutes) {
            if (minutes < 1 || minutes > 200) {
                return ARGUMENT;
            }
            int leaving = 0;
            for (int minute = 0; minute < minutes; minute++) {
                leaving += minute();
            }
            return "" + leaving;
        }

        String command(String command) {
            String[] words = command.split(" ");
            int first = words.length > 1 && !words[0].equals("boat") ? Integer.parseInt(words[1]) : 1;
            switch (words[0]) {
                case "boat":
                    return addBoat(words[1].charAt(0), words[1].charAt(1) - '0', words[2].equals("d"));
                case "valve":
                    return setValve(first, Integer.parseInt(words[2]));
                case "open":
                    return openGate(first);
                case "shut":
                    return shutGate(first);
                case "rain":
                    return setRain(first);
                case "drain":
                    return setDrain(first);
                default:
                    return advance(first);
            }
        }
    }

    private State now = new State();
    private State snapshot = null;
    private final List<State> earlier = new ArrayList<>();
    private String buffer = "";
    private String output = "";
    private int errorPosition = -1;
    private int failedCommand = -1;

    private static boolean isFault(String answer) {
        return answer.endsWith("Exception");
    }

    /** What a change on a copy answers; the copy becomes the state unless it was a fault. */
    private String keep(State next, String answer) {
        if (!isFault(answer)) {
            earlier.add(now);
            while (earlier.size() > 8) {
                earlier.remove(0);
            }
            now = next;
        }
        return answer;
    }

    String addBoat(char colour, int draught, boolean isDown) {
        State next = now.copy();
        return keep(next, next.addBoat(colour, draught, isDown));
    }

    String setValve(int valve, int opening) {
        State next = now.copy();
        return keep(next, next.setValve(valve, opening));
    }

    String openGate(int gate) {
        State next = now.copy();
        return keep(next, next.openGate(gate));
    }

    String shutGate(int gate) {
        State next = now.copy();
        return keep(next, next.shutGate(gate));
    }

    String setRain(int litres) {
        State next = now.copy();
        return keep(next, next.setRain(litres));
    }

    String setDrain(int litres) {
        State next = now.copy();
        return keep(next, next.setDrain(litres));
    }

    String advance(int minutes) {
        State next = now.copy();
        return keep(next, next.advance(minutes));
    }

    String minutesUntilLeaving(int boat) {
        if (boat < 0 || boat >= now.boats.size()) {
            return INDEX;
        }
        State later = now.copy();
        Boat watched = later.boats.get(boat);
        for (int minutes = 1; minutes <= 200; minutes++) {
            later.minute();
            if (watched.hasLeft) {
                return "" + minutes;
            }
        }
        return NO_ELEMENT;
    }

    String minutesUntilEqual(int gate) {
        if (gate < 0 || gate > 3) {
            return INDEX;
        }
        State later = now.copy();
        for (int minutes = 0; minutes <= 200; minutes++) {
            if (later.amount(gate) == 0) {
                return "" + minutes;
            }
            later.minute();
        }
        return NO_ELEMENT;
    }

    String volumeAfter(int basin, int minutes) {
        if (basin < 0 || basin > 4) {
            return INDEX;
        }
        if (minutes < 0 || minutes > 200) {
            return ARGUMENT;
        }
        State later = now.copy();
        for (int minute = 0; minute < minutes; minute++) {
            later.minute();
        }
        return "" + later.volumes[basin];
    }

    String type(char character) {
        if (character < ' ' || character > '~') {
            return ARGUMENT;
        }
        if (buffer.length() == 60) {
            return STATE;
        }
        buffer += character;
        return "" + buffer.length();
    }

    String runScript() {
        String script = buffer;
        buffer = "";
        if (!SCRIPT.matcher(script).matches()) {
            errorPosition = 0;
            while (errorPosition < script.length()
                    && canContinue(script.substring(0, errorPosition + 1))) {
                errorPosition++;
            }
            return ARGUMENT;
        }
        String[] commands = script.split(";");
        State next = now.copy();
        for (int index = 0; index < commands.length; index++) {
            if (isFault(next.command(commands[index]))) {
                failedCommand = index;
                return STATE;
            }
        }
        return keep(next, "" + commands.length);
    }

    private static boolean canContinue(String beginning) {
        Matcher matcher = SCRIPT.matcher(beginning);
        return matcher.matches() || matcher.hitEnd();
    }

    String errorPosition() {
        return errorPosition < 0 ? NO_ELEMENT : "" + errorPosition;
    }

    String failedCommand() {
        return failedCommand < 0 ? NO_ELEMENT : "" + failedCommand;
    }

    String undo() {
        if (earlier.isEmpty()) {
            return NO_ELEMENT;
        }
        now = earlier.remove(earlier.size() - 1);
        return "" + earlier.size();
    }

    String save() {
        snapshot = now.copy();
        return "" + now.boats.size();
    }

    String restore() {
        if (snapshot == null) {
            return STATE;
        }
        now = snapshot.copy();
        earlier.clear();
        return "" + now.boats.size();
    }

    String renderLevels() {
        output = "";
        for (int basin = 0; basin < 5; basin++) {
            output += basin == 0 ? "" : now.open[basin - 1] ? "/" : "|";
            output += now.volumes[basin] / AREAS[basin];
        }
        return "" + output.length();
    }

    String renderBoat(int index) {
        if (index < 0 || index >= now.boats.size()) {
            return INDEX;
        }
        Boat boat = now.boats.get(index);
        output = "" + boat.colour + boat.draught + (boat.isDown ? "v" : "^") + boat.basin;
        return "" + output.length();
    }

    String outputAt(int index) {
        return index < 0 || index >= output.length() ? INDEX : "" + output.charAt(index);
    }

    String boatInOrder(int rank) {
        List<Boat> order = now.order();
        return rank < 0 || rank >= order.size() ? NO_ELEMENT : "" + now.boats.indexOf(order.get(rank));
    }

    String flows() {
        String text = "";
        for (int gate = 0; gate < 4; gate++) {
            text += now.amount(gate) + " " + now.amount(gate) + " " + now.flow(gate) + " ";
        }
        return text + now.openGates();
    }

    String levels() {
        String text = "";
        int sum = 0;
        for (int basin = 0; basin < 5; basin++) {
            double exact = (double) now.volumes[basin] / (double) AREAS[basin];
            text += now.volumes[basin] / AREAS[basin] + " " + exact + " " + now.boatsIn(basin) + " ";
            sum += now.volumes[basin];
        }
        return text + sum + " " + (684 + now.rained - now.drained - now.spilled) + " "
                + (float) sum / 38f;
    }

    String ranks() {
        List<Integer> order = new ArrayList<>(List.of(0, 1, 2, 3, 4));
        order.sort((first, second) -> now.isHigher(first, second) ? -1
                : now.isHigher(second, first) ? 1 : first - second);
        return order.toString();
    }

    /** As Check.stateOf. */
    String state() {
        StringBuilder text = new StringBuilder("time " + now.time + " volumes");
        for (int volume : now.volumes) {
            text.append(' ').append(volume);
        }
        text.append(" gates");
        for (int gate = 0; gate < 4; gate++) {
            text.append(' ').append(now.openings[gate]).append(now.open[gate]);
        }
        text.append(" weather " + now.rain + " " + now.drain);
        text.append(" totals " + now.rained + " " + now.drained + " " + now.spilled + " boats");
        for (Boat boat : now.boats) {
            text.append(' ').append(boat.colour).append(boat.draught).append(boat.isDown);
            text.append(boat.basin);
        }
        text.append(" left ");
        for (String colour : new String[] {"r", "g", "b"}) {
            long count = now.left.stream().filter(colour::equals).count();
            text.append(colour.equals("r") ? "" : " ").append(count);
        }
        return text.append(" events ").append(String.join(" ", now.events)).toString();
    }
}
