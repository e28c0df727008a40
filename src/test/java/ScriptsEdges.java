import java.util.NoSuchElementException;
import java.util.function.Supplier;

/** The boundary cases of the promises 45 to 51: output and scripts. */
final class ScriptsEdges {
    private static final Class<IndexOutOfBoundsException> INDEX = IndexOutOfBoundsException.class;
    private static final Class<IllegalArgumentException> ARGUMENT = IllegalArgumentException.class;
    private static final Class<IllegalStateException> STATE = IllegalStateException.class;
    private static final Class<NoSuchElementException> ELEMENT = NoSuchElementException.class;
    private static final int LEAST = Integer.MIN_VALUE;
    private static final int MOST = Integer.MAX_VALUE;

    private ScriptsEdges() {
    }

    static void check() {
        renderLevels();
        renderBoat();
        outputAt();
        type();
        runScript();
        emptyBuffer();
        noForm();
        failedMethods();
        errorPosition();
        failedCommand();
    }

    private static void renderLevels() {
        Doc.says(45, "Replaces the output text by the rounded levels of all basins in order, with \"/\""
                + " between two basins if their gate is open and \"|\" if it is closed, as in"
                + " \"30|24/24|12|6\".");
        Check.same("at first", "30|24|18|12|6", levelsOf(Locks.make()));
        Check.same("the shortest text, all open", "0/0/0/0/0", levelsOf(Scenes.dry()));
        Check.same("the longest text, all open", "40/39/39/39/39", levelsOf(Scenes.full()));
        Check.same("between one digit and two", "30|24|18|12|5", levelsOf(Scenes.weathered(0, 1, 1)));
        Check.same("full and empty", "40|24|18|12|0", levelsOf(Scenes.weathered(9, 9, 12)));
        // Basin 3 falls from 72 to 62 and to 57 litres, from two digits to one.
        Check.same("62 litres", "30|24|18|10|7", levelsOf(Scenes.later(Scenes.valves(0, 0, 0, 2), 1)));
        Check.same("57 litres", "30|24|18|9|7", levelsOf(Scenes.later(Scenes.valves(0, 0, 0, 3), 1)));
        for (int gate = 0; gate < 4; gate++) {
            Locks locks = Scenes.open();
            locks.shutGate(gate);
            Check.same("gate " + gate + " is closed", 3 + 3 * gate - 1, levelsOf(locks).indexOf('|'));
            Locks closed = Scenes.levelled();
            closed.openGate(gate);
            Check.same("gate " + gate + " is open", 3 + 3 * gate - 1, levelsOf(closed).indexOf('/'));
        }
        Locks replaced = Scenes.withBoats(1);
        replaced.renderBoat(0);
        Check.same("in the place of a shorter text", "30|24|18|12|6", levelsOf(replaced));
        Doc.says(45, "Returns the length of the output text.");
        Check.same("the longest", 14, Scenes.full().renderLevels());
        Check.same("a sign less", 13, Locks.make().renderLevels());
        Check.same("the shortest", 9, Scenes.dry().renderLevels());
    }

    private static String levelsOf(Locks locks) {
        return Scenes.outputOf(locks, locks.renderLevels());
    }

    private static void renderBoat() {
        Doc.says(46, "Replaces the output text by a description of a boat: its colour, its draught, \"v\" if"
                + " it goes down or \"^\" if it goes up, and its basin, as in \"r3v2\".");
        for (int count : new int[] {1, 8}) {
            for (int boat : new int[] {0, count - 1}) {
                Locks locks = Scenes.withBoats(count);
                locks.renderLevels();
                String due = "" + "rgb".charAt(boat % 3) + (1 + boat) + (boat % 2 == 0 ? "v0" : "^4");
                Check.same("boat " + boat + " of " + count, due,
                        Scenes.outputOf(locks, locks.renderBoat(boat)));
                Check.fails("no longer text is left", INDEX, () -> locks.outputAt(4));
            }
        }
        for (int way = 0; way < 2; way++) {
            Locks locks = Scenes.open();
            locks.addBoat('b', 9, way == 0);
            for (int minute = 0; minute < 4; minute++) {
                Check.same("after " + minute, way == 0 ? "b9v" + minute : "b9^" + (4 - minute),
                        Scenes.outputOf(locks, locks.renderBoat(0)));
                locks.advance(1);
            }
        }
        Doc.says(46, "Returns the length of the output text.");
        Check.same("always", 4, Scenes.withBoats(8).renderBoat(7));
        Doc.says(46, "Throws `IndexOutOfBoundsException` if there is no such boat");
        for (int count : new int[] {0, 1, 8}) {
            Twins.refusesEach("of " + count + ", boat", INDEX, () -> Scenes.withBoats(count),
                    new int[] {-1, count, count + 1, 8, LEAST, MOST}, Locks::renderBoat);
        }
        // The output text of before stays.
        Twins.refusesEach("boat", INDEX, () -> {
            Locks locks = Scenes.onTheirWay();
            locks.renderLevels();
            return locks;
        }, new int[] {-1, 3, 8}, Locks::renderBoat);
    }

    private static void outputAt() {
        Doc.says(47, "Returns a character of the output text, which is empty initially.");
        Twins.refusesEach("initially", INDEX, Locks::make, new int[] {-1, 0, 1, LEAST, MOST},
                Locks::outputAt);
        Locks locks = Scenes.withBoats(2);
        locks.renderBoat(1);
        Check.same("the first and the last one", "g4", "" + locks.outputAt(0) + locks.outputAt(3));
        Doc.says(47, "Throws `IndexOutOfBoundsException` if there is no such index");
        Check.same("0 and 12", "36", "" + rendered().outputAt(0) + rendered().outputAt(12));
        Twins.refusesEach("of 13, index", INDEX, ScriptsEdges::rendered,
                new int[] {-1, 13, 14, LEAST, MOST}, Locks::outputAt);
        Supplier<Locks> shorter = () -> {
            Locks made = rendered();
            made.addBoat('r', 3, true);
            made.renderBoat(0);
            return made;
        };
        Check.same("0 and 3", "r0", "" + shorter.get().outputAt(0) + shorter.get().outputAt(3));
        Twins.refusesEach("of 4 after 13, index", INDEX, shorter, new int[] {-1, 4, 12, 13},
                Locks::outputAt);
    }

    private static Locks rendered() {
        Locks locks = Locks.make();
        locks.renderLevels();
        return locks;
    }

    private static void type() {
        Doc.says(48, "Appends a character to the script buffer.");
        Locks order = Locks.make();
        Scenes.type(order, "rain 1;rain 2");
        order.runScript();
        Check.same("behind the others", 2, order.rain());
        Doc.says(48, "Returns the length of the script buffer.");
        Locks locks = Locks.make();
        for (int length = 1; length <= 60; length++) {
            Check.same("the length", length, locks.type((char) (32 + length)));
        }
        Doc.says(48, "Throws `IllegalArgumentException` if the character code is not between 32 and 126");
        for (int code = 32; code <= 126; code++) {
            Check.same("code " + code, 1, Locks.make().type((char) code));
        }
        Twins.refusesEach("code", ARGUMENT, Scenes::busy,
                new int[] {0, 9, 10, 31, 127, 128, 160, 255, 256, 256 + 'w', 65535},
                (x, code) -> x.type((char) code));
        for (int length : new int[] {0, 59, 60}) {
            String text = TermsScriptsEdges.SIXTY.substring(0, length);
            Twins.refusesEach("behind " + length + ", code", ARGUMENT, () -> TermsScriptsEdges.typed(text),
                    new int[] {31, 127}, (x, code) -> x.type((char) code));
        }
        Doc.says(48, "Throws `IllegalStateException` if the script buffer has 60 characters");
        String sixty = TermsScriptsEdges.SIXTY;
        Check.same("it has 59", 60, TermsScriptsEdges.typed(sixty.substring(0, 59)).type('1'));
        Twins.refusesEach("it has 60, code", STATE, () -> TermsScriptsEdges.typed(sixty),
                new int[] {32, 126, '1', ';'}, (x, code) -> x.type((char) code));
        Locks full = TermsScriptsEdges.typed(sixty);
        Check.fails("it has 60", STATE, () -> full.type('1'));
        Check.same("the 60 are run", 10, full.runScript());
        Check.same("it has none", 1, full.type('1'));
    }

    private static void runScript() {
        Doc.says(49, "Runs the script in the script buffer.");
        Locks locks = TermsScriptsEdges.typed("rain 4;wait 3;boat r9 u");
        locks.runScript();
        Check.same("run", "4 3 312 4", locks.rain() + " " + locks.time() + " " + locks.volume(0) + " "
                + Scenes.basinsOf(locks));
        Doc.says(49, "Returns the number of commands.");
        String script = "wait";
        for (int commands = 1; commands <= 12; commands++) {
            Check.same("commands", commands, Scenes.run(Locks.make(), script));
            script += ";wait";
        }
        Check.same("ten in sixty characters", 10, Scenes.run(Locks.make(), TermsScriptsEdges.SIXTY));
    }

    private static void emptyBuffer() {
        Doc.says(49, "The buffer is empty afterwards, also if an exception is thrown.");
        for (String script : new String[] {"wait", "wait 200", TermsScriptsEdges.TWELVE, "", "?", "wait;",
            "wai", "open 0", "wait;shut 3", TermsScriptsEdges.TWELVE + ";"}) {
            Locks locks = Locks.make();
            Twins.answer(locks, asking -> Scenes.run(asking, script));
            Check.same("empty after " + script, 1, locks.type('w'));
            Scenes.type(locks, "ait 9");
            int time = locks.time();
            Check.same("the next one after " + script, 1, locks.runScript());
            Check.same("and nothing else", time + 9, locks.time());
            Check.fails("empty again", ARGUMENT, locks::runScript);
            Check.same("at its end", 0, locks.errorPosition());
        }
        // What an earlier, longer script has left behind the end is no part of a later one.
        for (String shorter : new String[] {"wai", "wait;", "rain"}) {
            Locks locks = Locks.make();
            Scenes.run(locks, "wait;rain 1;wait");
            Check.fails("too short: " + shorter, ARGUMENT, () -> Scenes.run(locks, shorter));
            Check.same("its end", shorter.length(), locks.errorPosition());
        }
    }

    private static void noForm() {
        Doc.says(49, "Throws `IllegalArgumentException` if the script does not have the required form;"
                + " errorPosition then returns its error position");
        String[] scripts = {"", " ", "w", "wait;", "wait;;", "wait 2000", "rain 10", "boat r1 D", "OPEN 1"};
        int[] positions = {0, 0, 1, 5, 5, 8, 6, 8, 0};
        for (int index = 0; index < scripts.length; index++) {
            String script = scripts[index];
            Supplier<Locks> ran = () -> {
                Locks locks = threeMinutes();
                Check.fails("no form: " + script, ARGUMENT, () -> Scenes.run(locks, script));
                return locks;
            };
            Check.same("position of " + script, positions[index], ran.get().errorPosition());
            Check.same("the failed command of before", 1, ran.get().failedCommand());
            Twins.covered("after " + script, ScriptsEdges::threeMinutes, ran);
            Check.same("the changes", Twins.changesOf(threeMinutes()), Twins.changesOf(ran.get()));
        }
    }

    /** An error position, 2, and a failed command, 1, have been; the buffer is empty. */
    private static Locks threeMinutes() {
        Locks locks = Scenes.weathered(1, 2, 3);
        Twins.answer(locks, asking -> Scenes.run(asking, "wx"));
        Twins.answer(locks, asking -> Scenes.run(asking, "ra!"));
        Twins.answer(locks, asking -> Scenes.run(asking, "wait;open 0"));
        return locks;
    }

    private static void failedMethods() {
        Doc.says(49, "Throws `IllegalStateException` if the method for a command throws an exception; no"
                + " command takes effect, and failedCommand then returns the index of that command");
        String[] failing = {"boat r0 d", "valve 4 0", "valve 0 4", "open 4", "open 0", "shut 0", "shut 4",
            "wait 0", "wait 201"};
        String[] before = {"", "rain 9;", "wait;wait;wait;wait;wait;wait;wait;wait;wait;wait;"};
        int[] indices = {0, 1, 10};
        for (String command : failing) {
            for (int index = 0; index < before.length; index++) {
                String script = before[index] + command;
                Supplier<Locks> ran = () -> {
                    Locks locks = threeMinutes();
                    Check.fails(script, STATE, () -> Scenes.run(locks, script));
                    return locks;
                };
                Check.same("the failed one of " + script, indices[index], ran.get().failedCommand());
                Check.same("the error position of before", 2, ran.get().errorPosition());
                Twins.covered("after " + script, ScriptsEdges::threeMinutes, ran);
                Check.same("the changes", Twins.changesOf(threeMinutes()), Twins.changesOf(ran.get()));
            }
        }
        // The ninth boat, by what is there and by what the script itself has added.
        for (int count : new int[] {6, 7, 8}) {
            Locks locks = Scenes.withBoats(count);
            Check.fails("a ninth boat", STATE, () -> Scenes.run(locks, "boat r1 d;boat g1 d;boat b1 d"));
            Check.same("which one", 8 - count, locks.failedCommand());
            Check.same("none was added", count, locks.boatCount());
        }
        Check.same("the seventh and the eighth", 2,
                Scenes.run(Scenes.withBoats(6), "boat r1 d;boat g1 d"));
        // Gates: a command sees what the commands before it have done.
        Locks gates = Scenes.levelled();
        Check.fails("open twice", STATE, () -> Scenes.run(gates, "open 0;open 1;open 0"));
        Check.same("the third one", 2, gates.failedCommand());
        Check.fails("shut twice", STATE, () -> Scenes.run(gates, "open 0;shut 0;shut 0"));
        Check.same("the third one", 2, gates.failedCommand());
        Check.same("opened, shut and opened", 3, Scenes.run(gates, "open 0;shut 0;open 0"));
    }

    private static void errorPosition() {
        Doc.says(50, "Throws `NoSuchElementException` if there was no such script");
        Twins.refuses("no script at all", ELEMENT, Locks::make, Locks::errorPosition);
        Twins.refuses("a script with the form", ELEMENT, () -> ran("wait"), Locks::errorPosition);
        Twins.refuses("a script that failed", ELEMENT, () -> ran("wait 0"), Locks::errorPosition);
        Twins.refuses("a script that was not run", ELEMENT, () -> TermsScriptsEdges.typed("?"),
                Locks::errorPosition);
        Check.same("a script without the form", 0, ran("?").errorPosition());
        Doc.says(50, "Returns the error position of the latest script that did not have the required form.");
        Locks locks = ran("wait?");
        String[] scripts = {"wait", "wait 0", "wai", "rain 3", "", "shut 0", "rain  "};
        int[] positions = {4, 4, 3, 3, 0, 0, 5};
        for (int index = 0; index < scripts.length; index++) {
            String script = scripts[index];
            Twins.answer(locks, asking -> Scenes.run(asking, script));
            Check.same("after " + script, positions[index], locks.errorPosition());
        }
        locks.save();
        locks.undo();
        locks.restore();
        Check.same("after all", 5, locks.errorPosition());
        Check.same("asked again", 5, locks.errorPosition());
    }

    /** New locks after a script, whatever became of it. */
    private static Locks ran(String script) {
        Locks locks = Locks.make();
        Twins.answer(locks, asking -> Scenes.run(asking, script));
        return locks;
    }

    private static void failedCommand() {
        Doc.says(51, "Throws `NoSuchElementException` if there was no such script");
        Twins.refuses("no script at all", ELEMENT, Locks::make, Locks::failedCommand);
        Twins.refuses("a script that did not fail", ELEMENT, () -> ran("wait"), Locks::failedCommand);
        Twins.refuses("a script without the form", ELEMENT, () -> ran("shut 0;"), Locks::failedCommand);
        Twins.refuses("a script that was not run", ELEMENT, () -> TermsScriptsEdges.typed("shut 0"),
                Locks::failedCommand);
        Check.same("a script that failed", 0, ran("shut 0").failedCommand());
        Doc.says(51, "Returns the index of the command that failed in the latest script with a failed"
                + " command.");
        Locks locks = ran("wait;wait;shut 0");
        String[] scripts = {"wait", "?", "wait;open 0", "rain 3", "", "shut 0;wait", "wait;x"};
        int[] indices = {2, 2, 1, 1, 1, 0, 0};
        for (int index = 0; index < scripts.length; index++) {
            String script = scripts[index];
            Twins.answer(locks, asking -> Scenes.run(asking, script));
            Check.same("after " + script, indices[index], locks.failedCommand());
        }
        locks.save();
        locks.undo();
        locks.restore();
        Check.same("after all", 0, locks.failedCommand());
        Check.same("the first one of two that would fail", 1, ran("wait;shut 0;shut 1").failedCommand());
        Doc.says(51, "Returns the index of the command, counted from 0.");
        Check.same("the first", 0, ran("wait 0;wait").failedCommand());
        Check.same("the second", 1, ran("wait;wait 0;wait").failedCommand());
        Check.same("the last there is room for", 10,
                ran("wait;wait;wait;wait;wait;wait;wait;wait;wait;wait;shut 0").failedCommand());
    }
}
