import java.util.Random;
import java.util.function.Supplier;

/** All promises: long runs of calls, drawn with fixed seeds, on the class and on the model. */
final class ModelTest {
    private static final int RUNS = 2000;
    // A step takes at most some 80 calls, comparing all at the end of a run takes some 160.
    private static final int CALLS_OF_STEPS = Locks.CALLS - 80 - 160;
    private static final String[] COMMANDS = {"boat r1 d", "boat g2 u", "boat b9 d", "boat r0 d",
        "valve 0 3", "valve 1 2", "valve 2 3", "valve 3 1", "valve 4 1", "valve 1 4", "open 0",
        "open 1", "open 2", "open 3", "open 5", "shut 0", "shut 1", "shut 2", "shut 3", "rain 9",
        "rain 0", "rain 4", "drain 9", "drain 0", "drain 2", "wait", "wait 3", "wait 20", "wait 200",
        "wait 0", "wait 201", "wait 007"};

    private final Random random;
    private final Locks locks = Locks.make();
    private final Model model = new Model();
    private final StringBuilder calls = new StringBuilder();
    private boolean isAlike = true;

    private ModelTest(long seed) {
        random = new Random(seed);
    }

    public static void main(String[] args) {
        for (int seed = 0; seed < RUNS; seed++) {
            new ModelTest(seed).play();
        }
        Check.end();
    }

    private void play() {
        if (random.nextInt(3) > 0) {
            levelOut();
        }
        while (Locks.callsOf(locks) < CALLS_OF_STEPS && isAlike) {
            step();
            compareSome();
        }
        compareAll();
    }

    /** Boats can pass only after the basins are level, which chance alone seldom brings about. */
    private void levelOut() {
        for (int valve = 0; valve < 4; valve++) {
            setValve(valve, 3);
        }
        boolean isLow = random.nextInt(3) == 0;
        if (isLow) {
            setDrain(9);
        }
        int rounds = 1 + random.nextInt(2);
        for (int round = 0; round < rounds; round++) {
            advance(isLow ? 20 + random.nextInt(40) : 200);
        }
        setDrain(0);
        advance(100);
        for (int gate = 0; gate < 4; gate++) {
            openGate(gate);
        }
    }

    private void step() {
        switch (random.nextInt(24)) {
            case 0: case 1: case 2: case 3: case 4: addBoat(); break;
            case 5: setValve(odd(4), odd(4)); break;
            case 6: case 7: openGate(odd(4)); break;
            case 8: shutGate(odd(4)); break;
            case 9: setRain(odd(10)); break;
            case 10: setDrain(odd(10)); break;
            case 11: case 12: case 13: case 14: advance(1 + random.nextInt(2)); break;
            case 15: advance(odd(210)); break;
            case 16: predict(); break;
            case 17: render(); break;
            case 18: case 19: script(); break;
            case 20: undo(); break;
            case 21: alike("save()", model.save(), () -> locks.save()); break;
            case 22: restore(); break;
            default: alike("runScript()", model.runScript(), () -> locks.runScript()); break;
        }
    }

    /** Mostly from 0 to limit - 1, now and then beside that. */
    private int odd(int limit) {
        int[] beside = {-1, limit, limit + 1, -7, Integer.MIN_VALUE, Integer.MAX_VALUE};
        return random.nextInt(12) == 0 ? beside[random.nextInt(6)] : random.nextInt(limit);
    }

    private void addBoat() {
        char colour = "rgbrgbrgbrgbxR".charAt(random.nextInt(14));
        int draught = random.nextInt(10) == 0 ? odd(11) : 1 + random.nextInt(9);
        boolean isDown = random.nextBoolean();
        alike("addBoat(" + colour + ", " + draught + ", " + isDown + ")",
                model.addBoat(colour, draught, isDown), () -> locks.addBoat(colour, draught, isDown));
    }

    private void setValve(int valve, int opening) {
        alike("setValve(" + valve + ", " + opening + ")", model.setValve(valve, opening),
                () -> locks.setValve(valve, opening));
    }

    private void openGate(int gate) {
        alike("openGate(" + gate + ")", model.openGate(gate), () -> locks.openGate(gate));
    }

    private void shutGate(int gate) {
        alike("shutGate(" + gate + ")", model.shutGate(gate), () -> locks.shutGate(gate));
    }

    private void setRain(int litres) {
        alike("setRain(" + litres + ")", model.setRain(litres), () -> locks.setRain(litres));
    }

    private void setDrain(int litres) {
        alike("setDrain(" + litres + ")", model.setDrain(litres), () -> locks.setDrain(litres));
    }

    private void advance(int minutes) {
        alike("advance(" + minutes + ")", model.advance(minutes), () -> locks.advance(minutes));
    }

    private void predict() {
        for (int boat = -1; boat <= locks.boatCount(); boat++) {
            int watched = boat;
            alike("minutesUntilLeaving(" + boat + ")", model.minutesUntilLeaving(boat),
                    () -> locks.minutesUntilLeaving(watched));
        }
        for (int gate = -1; gate <= 4; gate++) {
            int watched = gate;
            alike("minutesUntilEqual(" + gate + ")", model.minutesUntilEqual(gate),
                    () -> locks.minutesUntilEqual(watched));
        }
        int basin = odd(5);
        int minutes = odd(202);
        alike("volumeAfter(" + basin + ", " + minutes + ")", model.volumeAfter(basin, minutes),
                () -> locks.volumeAfter(basin, minutes));
    }

    private void render() {
        if (random.nextBoolean()) {
            alike("renderLevels()", model.renderLevels(), () -> locks.renderLevels());
        } else {
            int boat = odd(9);
            alike("renderBoat(" + boat + ")", model.renderBoat(boat), () -> locks.renderBoat(boat));
        }
    }

    private void script() {
        StringBuilder text = new StringBuilder();
        int commands = 1 + random.nextInt(7);
        for (int command = 0; command < commands; command++) {
            text.append(command == 0 ? "" : ";").append(COMMANDS[random.nextInt(COMMANDS.length)]);
        }
        if (random.nextInt(3) == 0) {
            int index = random.nextInt(text.length());
            text.setCharAt(index, " ;0123459bdrvwx/:~".charAt(random.nextInt(18)));
        }
        if (random.nextInt(5) == 0) {
            text.setLength(random.nextInt(text.length()));
        }
        for (int index = 0; index < text.length(); index++) {
            char character = text.charAt(index);
            alike("type(" + character + ")", model.type(character), () -> locks.type(character));
        }
        if (random.nextInt(20) == 0) {
            char character = (char) new int[] {31, 127, 10, 0, 200, 65535}[random.nextInt(6)];
            alike("type(" + (int) character + ")", model.type(character), () -> locks.type(character));
        }
        alike("runScript()", model.runScript(), () -> locks.runScript());
    }

    private void undo() {
        int times = random.nextInt(4) == 0 ? 10 : 1 + random.nextInt(3);
        for (int time = 0; time < times; time++) {
            alike("undo()", model.undo(), () -> locks.undo());
        }
    }

    private void restore() {
        if (random.nextInt(3) == 0) {
            alike("restore()", model.restore(), () -> locks.restore());
        }
    }

    private void compareSome() {
        switch (random.nextInt(12)) {
            case 0: alike("levels", model.levels(), this::levels); break;
            case 1: alike("flows", model.flows(), this::flows); break;
            case 2: alike("ranks", model.ranks(), this::ranks); break;
            case 3: alike("errorPosition()", model.errorPosition(), () -> locks.errorPosition()); break;
            case 4: alike("failedCommand()", model.failedCommand(), () -> locks.failedCommand()); break;
            case 5: case 6: compareOrder(); break;
            case 7: compareOutput(); break;
            case 8: predict(); break;
            default: break;
        }
    }

    private void compareAll() {
        alike("state", model.state(), () -> Scenes.stateOf(locks));
        alike("levels", model.levels(), this::levels);
        alike("flows", model.flows(), this::flows);
        alike("ranks", model.ranks(), this::ranks);
        alike("isConsistent()", "true", () -> locks.isConsistent());
        alike("errorPosition()", model.errorPosition(), () -> locks.errorPosition());
        alike("failedCommand()", model.failedCommand(), () -> locks.failedCommand());
        compareOrder();
        compareOutput();
    }

    private void compareOrder() {
        int rank = odd(8);
        alike("boatInOrder(" + rank + ")", model.boatInOrder(rank), () -> locks.boatInOrder(rank));
    }

    private void compareOutput() {
        int index = odd(14);
        alike("outputAt(" + index + ")", model.outputAt(index), () -> locks.outputAt(index));
    }

    private String flows() {
        String text = "";
        int open = 0;
        for (int gate = 0; gate < 4; gate++) {
            text += locks.equalizingAmount(gate) + " " + locks.equalizingAmountByLitres(gate) + " "
                    + locks.flow(gate) + " ";
            open += locks.isOpen(gate) ? 1 : 0;
        }
        return text + open;
    }

    private String levels() {
        String text = "";
        for (int basin = 0; basin < 5; basin++) {
            text += locks.level(basin) + " " + locks.exactLevel(basin) + " " + locks.boatsIn(basin)
                    + " ";
        }
        return text + locks.totalVolume() + " " + locks.totalVolumeByAccounts() + " "
                + locks.meanLevel();
    }

    private String ranks() {
        String text = "";
        for (int rank = 0; rank < 5; rank++) {
            text += (rank == 0 ? "[" : ", ") + locks.basinByLevel(rank);
        }
        return text + "]";
    }

    private void alike(String call, String due, Supplier<Object> answer) {
        if (!isAlike) {
            return;
        }
        String got;
        try {
            got = String.valueOf(answer.get());
        } catch (RuntimeException e) {
            got = e.getClass().getSimpleName();
        }
        calls.append(call).append(" = ").append(got).append('\n');
        isAlike = due.equals(got);
        Check.same(call, due, got);
        if (!isAlike) {
            System.out.println("after the calls\n" + calls);
        }
    }
}
