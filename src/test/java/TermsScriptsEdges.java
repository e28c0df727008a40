import java.util.NoSuchElementException;
import java.util.function.Consumer;
import java.util.function.Supplier;

/** The boundary cases of "Terms", as far as they are about scripts, changes and exceptions. */
final class TermsScriptsEdges {
    /** 60 characters, 10 commands, 7 minutes. */
    static final String SIXTY = "wait;wait;wait;wait;wait;wait;rain 1;rain 2;rain 3;valve 0 1";
    /** 59 characters, the most commands that there is room for. */
    static final String TWELVE = "wait;wait;wait;wait;wait;wait;wait;wait;wait;wait;wait;wait";

    private TermsScriptsEdges() {
    }

    static void check() {
        buffer();
        form();
        commands();
        allOrNone();
        errorPositions();
        changes();
        latestChanges();
        whatUndoCovers();
        whatTheSnapshotCovers();
        refusedCalls();
        severalExceptions();
    }

    private static void buffer() {
        Doc.says(Doc.TERMS, "A script is typed into a buffer of at most 60 characters and then run.");
        Locks locks = Locks.make();
        for (int length = 1; length <= 60; length++) {
            Check.same("typed", length, locks.type(SIXTY.charAt(length - 1)));
        }
        Check.fails("a 61st character", IllegalStateException.class, () -> locks.type(';'));
        Check.same("60 characters are run", 10, locks.runScript());
        Check.same("all of them", "6 3 1", locks.time() + " " + locks.rain() + " " + locks.opening(0));
        Twins.refuses("a 61st character", IllegalStateException.class, () -> typed(SIXTY),
                x -> x.type('0'));
        Check.same("a 60th character", 60, typed(SIXTY.substring(0, 59)).type('0'));
    }

    static Locks typed(String text) {
        Locks locks = Locks.make();
        Scenes.type(locks, text);
        return locks;
    }

    private static void form() {
        Doc.says(Doc.TERMS, "It has the form below, where braces mean zero or more repetitions, brackets an"
                + " optional part, and a bar an alternative.");
        // Zero, one and the most repetitions that there is room for; one is the least.
        Check.same("one command", 1, Scenes.run(Locks.make(), "wait"));
        Check.same("two commands", 2, Scenes.run(Locks.make(), "wait;wait"));
        Check.same("twelve commands", 12, Scenes.run(Locks.make(), TWELVE));
        for (String script : new String[] {"", ";", "wait;", ";wait", "wait;;wait", TWELVE + ";"}) {
            Check.fails("no script: " + script, IllegalArgumentException.class,
                    () -> Scenes.run(Locks.make(), script));
        }
        // The number is optional; it has one to three digits.
        String[] waits = {"wait", "wait 2", "wait 03", "wait 40", "wait 005", "wait 060", "wait 200"};
        int[] minutes = {1, 2, 3, 40, 5, 60, 200};
        for (int index = 0; index < waits.length; index++) {
            Locks locks = Locks.make();
            Scenes.run(locks, waits[index]);
            Check.same(waits[index], minutes[index], locks.time());
        }
        for (String script : new String[] {"wait ", "wait  1", "wait 0001", "wait 1 ", "wait1", "wait -1"}) {
            Check.fails("no script: " + script, IllegalArgumentException.class,
                    () -> Scenes.run(Locks.make(), script));
        }
        // The alternatives, each with the signs on both sides of them refused.
        for (char sign = ' '; sign <= '~'; sign++) {
            oneSign("rgb".indexOf(sign) >= 0, "boat ", sign, "1 d");
            oneSign("du".indexOf(sign) >= 0, "boat r1 ", sign, "");
            boolean isDigit = sign >= '0' && sign <= '9';
            for (String word : new String[] {"boat r", "valve ", "valve 0 ", "open ", "shut ", "rain ",
                "drain ", "wait ", "wait 0", "wait 00"}) {
                String end = word.equals("boat r") ? " d" : word.equals("valve ") ? " 0" : "";
                boolean isNextCommand = sign == ';' && word.startsWith("wait 0");
                if (!isNextCommand) {
                    oneSign(isDigit, word, sign, end);
                }
            }
        }
        for (String word : new String[] {"boat r1 d", "valve 0 0", "open 0", "shut 0", "rain 0", "drain 0",
            "wait 1"}) {
            wordBroken(word);
        }
    }

    /** With this sign the script has the form, so at most a command fails; or it has not. */
    private static void oneSign(boolean hasForm, String begin, char sign, String end) {
        Locks locks = typed(begin + sign + end);
        String answer = Twins.answer(locks, Locks::runScript);
        Check.same("form of " + begin + sign + end, hasForm, !answer.equals("IllegalArgumentException"));
        if (!hasForm) {
            Check.same("error position of " + begin + sign + end, begin.length(), locks.errorPosition());
        }
    }

    /** Each character of a command counts: another one in its place is its error position. */
    private static void wordBroken(String word) {
        for (int index = 0; index < word.length(); index++) {
            Locks locks = typed(word.substring(0, index) + '?' + word.substring(index + 1));
            Check.fails("not at " + index + " of " + word, IllegalArgumentException.class,
                    locks::runScript);
            Check.same("error position in " + word, index, locks.errorPosition());
            Locks shorter = typed(word.substring(0, index));
            if (!word.substring(0, index).equals("wait")) {
                Check.fails("no end at " + index + " of " + word, IllegalArgumentException.class,
                        shorter::runScript);
                Check.same("too early an end of " + word, index, shorter.errorPosition());
            }
        }
    }

    private static void commands() {
        Doc.says(Doc.TERMS, "The commands stand for addBoat (d for down, u for up), setValve, openGate,"
                + " shutGate, setRain, setDrain and advance, with the arguments in the same order; wait"
                + " without a number advances by 1 minute.");
        standsFor("boat g7 d", locks -> locks.addBoat('g', 7, true));
        standsFor("boat b1 u", locks -> locks.addBoat('b', 1, false));
        standsFor("boat r9 d", locks -> locks.addBoat('r', 9, true));
        standsFor("valve 3 1", locks -> locks.setValve(3, 1));
        standsFor("valve 0 3", locks -> locks.setValve(0, 3));
        standsFor("valve 2 0", locks -> locks.setValve(2, 0));
        standsFor("open 2", locks -> locks.openGate(2));
        standsFor("shut 0", locks -> locks.shutGate(0));
        standsFor("shut 3", locks -> locks.shutGate(3));
        standsFor("rain 9", locks -> locks.setRain(9));
        standsFor("rain 0", locks -> locks.setRain(0));
        standsFor("drain 9", locks -> locks.setDrain(9));
        standsFor("drain 0", locks -> locks.setDrain(0));
        standsFor("wait 1", locks -> locks.advance(1));
        standsFor("wait 200", locks -> locks.advance(200));
        standsFor("wait", locks -> locks.advance(1));
        // What the method refuses, the command fails at; beside it stands what the method takes.
        String[] taken = {"boat r1 d", "boat r9 d", "valve 0 0", "valve 3 3", "rain 0", "rain 9", "drain 0",
            "drain 9", "wait 1", "wait 001", "wait 200", "shut 3", "open 2"};
        String[] refused = {"boat r0 d", "valve 4 0", "valve 9 3", "valve 0 4", "valve 3 9", "wait 0",
            "wait 000", "wait 201", "wait 999", "shut 4", "shut 9", "open 4", "open 9", "open 3", "shut 2"};
        for (String script : taken) {
            Check.same(script, 1, Scenes.run(threeOpen(), script));
        }
        for (String script : refused) {
            Locks locks = threeOpen();
            Check.fails(script, IllegalStateException.class, () -> Scenes.run(locks, script));
            Check.same("which one failed", 0, locks.failedCommand());
        }
    }

    /** The gates 0, 1 and 3 are open, gate 2 could be opened. */
    private static Locks threeOpen() {
        Locks locks = Scenes.open();
        locks.shutGate(2);
        return locks;
    }

    private static void standsFor(String command, Consumer<Locks> call) {
        alikeAfter(command, TermsScriptsEdges::threeOpen, call);
        if (!command.startsWith("open")) {
            alikeAfter(command, Scenes::wet, call);
        }
    }

    private static void alikeAfter(String command, Supplier<Locks> made, Consumer<Locks> call) {
        Twins.alike(command, () -> {
            Locks locks = made.get();
            call.accept(locks);
            return locks;
        }, () -> {
            Locks locks = made.get();
            Scenes.run(locks, command);
            return locks;
        });
    }

    private static void allOrNone() {
        Doc.says(Doc.TERMS,
                "The commands are executed in order, and either all of them take effect or none.");
        Locks order = Locks.make();
        Scenes.run(order, "rain 3;wait;rain 5;wait;rain 0;wait");
        Check.same("in order", "308 3 0", order.volume(0) + " " + order.time() + " " + order.rain());
        Check.same("a later command needs an earlier one", 4,
                Scenes.run(Locks.make(), "valve 0 3;wait 2;open 0;shut 0"));
        String[] parts = {"rain 9", "drain 9", "valve 2 2", "wait 9", "boat r1 d", "boat b2 u", "shut 3"};
        for (int failing = 0; failing <= 4; failing++) {
            String script = "";
            for (int index = 0; index < 5; index++) {
                script += (index == 0 ? "" : ";") + (index == failing ? "open 9" : parts[index]);
            }
            String typed = script;
            Locks locks = threeOpen();
            Check.fails("fails at " + failing, IllegalStateException.class,
                    () -> Scenes.run(locks, typed));
            Check.same("failed", failing, locks.failedCommand());
            Twins.covered("none takes effect, " + failing, TermsScriptsEdges::threeOpen, () -> {
                Locks tried = threeOpen();
                Twins.answer(tried, asking -> Scenes.run(asking, typed));
                return tried;
            });
        }
        Locks all = threeOpen();
        Check.same("all", 7, Scenes.run(all, String.join(";", parts)));
        Check.same("all take effect", "9 9 2 9 0 4 false", all.rain() + " " + all.drain() + " "
                + all.opening(2) + " " + (all.time() - 200) + " " + Scenes.basinsOf(all) + " "
                + all.isOpen(3));
    }

    private static void errorPositions() {
        Doc.says(Doc.TERMS, "The error position of a script that does not have this form is the index of"
                + " the first character that cannot continue any script of this form, or the length of the"
                + " script if every character can and the end comes too early.");
        Object[][] rows = {
            {"", 0}, {"?", 0}, {"?wait", 0}, {"w", 1}, {"w?", 1}, {"wai", 3}, {"wai?", 3}, {"wait?", 4},
            {"wait ", 5}, {"wait ?", 5}, {"wait 1?", 6}, {"wait 12?", 7}, {"wait 123?", 8},
            {"wait 1234", 8}, {"wait;", 5}, {"wait;?", 5}, {"wait;w", 6}, {"wait;waiter", 9},
            {"d", 1}, {"drai", 4}, {"du", 1}, {"rain 1;r", 8}, {"rain 10", 6}, {"boat r1 du", 9},
            {"valve 1", 7}, {"valve 11", 7}, {"rain;", 4}, {"open 9;shut 9;x", 14}, {"rain 1 ;", 6},
            {TWELVE + ";", 60}, {TWELVE + "?", 59}, {TWELVE.substring(0, 58), 58},
            {TWELVE.substring(0, 55) + "rain ", 60}, {"?" + TWELVE, 0},
        };
        for (Object[] row : rows) {
            Locks locks = typed((String) row[0]);
            Check.fails("no form: " + row[0], IllegalArgumentException.class, locks::runScript);
            Check.same("error position of " + row[0], (Integer) row[1], locks.errorPosition());
        }
    }

    private static void changes() {
        Doc.says(Doc.TERMS, "A change is a call of addBoat, setValve, openGate, shutGate, setRain,"
                + " setDrain, advance or runScript that returns normally, even if the state is the same"
                + " afterwards.");
        isChange("addBoat", 1, locks -> locks.addBoat('r', 1, true));
        isChange("setValve", 1, locks -> locks.setValve(0, 1));
        isChange("setValve to the same", 1, locks -> locks.setValve(0, 0));
        isChange("openGate", 1, locks -> locks.openGate(2));
        isChange("shutGate", 1, locks -> locks.shutGate(0));
        isChange("setRain", 1, locks -> locks.setRain(1));
        isChange("setRain to the same", 1, locks -> locks.setRain(0));
        isChange("setDrain", 1, locks -> locks.setDrain(1));
        isChange("setDrain to the same", 1, locks -> locks.setDrain(0));
        isChange("advance", 1, locks -> locks.advance(1));
        isChange("runScript", 1, locks -> Scenes.run(locks, "wait"));
        isChange("runScript with five commands", 1,
                locks -> Scenes.run(locks, "rain 1;rain 2;rain 3;rain 4;rain 5"));
        isChange("runScript to the same", 1, locks -> Scenes.run(locks, "rain 0;open 2;shut 2"));
        isChange("refused calls", 0, TermsScriptsEdges::tryAllChanges);
        isChange("a script without the form", 0,
                locks -> Twins.answer(locks, asking -> Scenes.run(asking, "wait;x")));
        isChange("a script that fails", 0,
                locks -> Twins.answer(locks, asking -> Scenes.run(asking, "wait;shut 9")));
        isChange("save", 0, Locks::save);
        isChange("renderLevels", 0, Locks::renderLevels);
        isChange("type", 0, locks -> locks.type('w'));
        isChange("a prediction", 0, locks -> locks.volumeAfter(0, 200));
    }

    private static void tryAllChanges(Locks locks) {
        Twins.answer(locks, asking -> asking.addBoat('r', 0, true));
        Twins.answer(locks, asking -> asking.setValve(0, 4));
        Twins.answer(locks, asking -> asking.openGate(0));
        Twins.answer(locks, asking -> asking.shutGate(2));
        Twins.answer(locks, asking -> asking.setRain(10));
        Twins.answer(locks, asking -> asking.setDrain(-1));
        Twins.answer(locks, asking -> asking.advance(0));
    }

    /** After a restore there is nothing to undo, so what can be undone then are the call's changes. */
    private static void isChange(String what, int due, Consumer<Locks> call) {
        Locks locks = threeOpen();
        locks.save();
        locks.restore();
        String before = Scenes.stateOf(locks);
        call.accept(locks);
        int changes = 0;
        while (changes < 9 && !Twins.answer(locks, Locks::undo).endsWith("Exception")) {
            changes++;
        }
        Check.same(what + ", changes", due, changes);
        Check.same(what + ", as before", before, Scenes.stateOf(locks));
    }

    private static void latestChanges() {
        Doc.says(Doc.TERMS, "The latest 8 changes can be undone, the latest one first.");
        for (int count : new int[] {0, 1, 7, 8, 9, 15, 16, 17, 40}) {
            Locks locks = Locks.make();
            for (int change = 1; change <= count; change++) {
                locks.advance(change);
            }
            int time = count * (count + 1) / 2;
            int undone = 0;
            while (undone < Math.min(count, 8)) {
                undone++;
                Check.same("of " + count + ", left after " + undone, Math.min(count, 8) - undone,
                        locks.undo());
                time -= count + 1 - undone;
                Check.same("of " + count + ", the time after " + undone, time, locks.time());
            }
            Check.fails("of " + count + ", no more", NoSuchElementException.class, locks::undo);
            Check.same("of " + count + ", the time stays", time, locks.time());
        }
    }

    private static void whatUndoCovers() {
        Doc.says(Doc.TERMS, "Undo and the snapshot cover everything except the script buffer, the error"
                + " position, the index of the failed command, the output text and the snapshot itself.");
        Supplier<Locks> undone = () -> {
            Locks locks = Scenes.busy();
            Scenes.run(locks, "3;boat b2 d;drain 7;valve 3 3;wait 150;shut 1");
            locks.undo();
            return locks;
        };
        Twins.covered("a script undone", Scenes::busy, undone);
        coveredIfUndone("addBoat", locks -> locks.addBoat('g', 1, false));
        coveredIfUndone("setValve", locks -> locks.setValve(1, 0));
        coveredIfUndone("shutGate", locks -> locks.shutGate(1));
        coveredIfUndone("setRain", locks -> locks.setRain(5));
        coveredIfUndone("setDrain", locks -> locks.setDrain(9));
        coveredIfUndone("advance by 1", locks -> locks.advance(1));
        coveredIfUndone("advance by 200", locks -> locks.advance(200));
        coveredIfUndone("runScript",
                locks -> Scenes.run(locks, "wait 3;boat r1 d;shut 0;valve 0 3;rain 0;wait 99"));
        Twins.covered("openGate undone", TermsScriptsEdges::threeOpen, () -> {
            Locks locks = threeOpen();
            locks.openGate(2);
            locks.undo();
            return locks;
        });
        // What is not covered stays as it is now.
        Locks locks = Scenes.busy();
        locks.setRain(5);
        locks.renderLevels();
        Twins.answer(locks, asking -> Scenes.run(asking, "?"));
        Twins.answer(locks, asking -> Scenes.run(asking, "wait;rain 1;wait 0"));
        Scenes.type(locks, "wait 00");
        locks.save();
        locks.undo();
        Check.same("the rain of the snapshot is not that of now", 2, locks.rain());
        Check.same("both positions", "12 2", locks.errorPosition() + " " + locks.failedCommand());
        Check.same("the output text", "18/18/17|17/17".length(), lengthOf(locks));
        Check.same("the script buffer", 8, locks.type('8'));
        locks.restore();
        Check.same("the snapshot itself", 5, locks.rain());
        int time = locks.time();
        Check.same("the script in the buffer", 1, locks.runScript());
        Check.same("8 minutes", time + 8, locks.time());
    }

    /** Undo takes the change back in all that it covers, and so does a snapshot of before. */
    private static void coveredIfUndone(String what, Consumer<Locks> change) {
        Check.holds(what + " changes the state", !changed(change).equals(Scenes.stateOf(Scenes.wet())));
        Twins.covered(what + " undone", Scenes::wet, () -> {
            Locks locks = Scenes.wet();
            change.accept(locks);
            locks.undo();
            return locks;
        });
        Twins.covered(what + " and a restore", Scenes::wet, () -> {
            Locks locks = Scenes.wet();
            locks.save();
            change.accept(locks);
            locks.restore();
            return locks;
        });
    }

    private static String changed(Consumer<Locks> change) {
        Locks locks = Scenes.wet();
        change.accept(locks);
        return Scenes.stateOf(locks);
    }

    private static int lengthOf(Locks locks) {
        return Twins.outputOf(locks).indexOf(' ');
    }

    private static void whatTheSnapshotCovers() {
        Supplier<Locks> restored = () -> {
            Locks locks = Scenes.busy();
            locks.save();
            Scenes.run(locks, "3;boat b2 d;drain 7;valve 3 3;wait 150;shut 1");
            locks.restore();
            return locks;
        };
        Twins.covered("a script and a restore", Scenes::busy, restored);
        Locks locks = Scenes.busy();
        locks.save();
        locks.renderLevels();
        Twins.answer(locks, asking -> Scenes.run(asking, "?"));
        Twins.answer(locks, asking -> Scenes.run(asking, "wait;rain 1;wait 0"));
        Scenes.type(locks, "wait 00");
        locks.restore();
        Check.same("both positions", "12 2", locks.errorPosition() + " " + locks.failedCommand());
        Check.same("the output text", "18/18/17|17/17".length(), lengthOf(locks));
        Check.same("the script buffer", 8, locks.type('8'));
    }

    private static void refusedCalls() {
        Doc.says(Doc.TERMS,
                "A method that throws an exception changes nothing unless its description says otherwise.");
        Class<IndexOutOfBoundsException> index = IndexOutOfBoundsException.class;
        Class<IllegalArgumentException> argument = IllegalArgumentException.class;
        Class<NoSuchElementException> element = NoSuchElementException.class;
        Class<IllegalStateException> state = IllegalStateException.class;
        Twins.refuses("addBoat", argument, Scenes::busy, x -> x.addBoat('x', 1, true));
        Twins.refuses("setValve", argument, Scenes::busy, x -> x.setValve(1, 4));
        Twins.refuses("openGate", index, Scenes::busy, x -> x.openGate(4));
        Twins.refuses("openGate, open", state, Scenes::busy, x -> x.openGate(0));
        Twins.refuses("shutGate", state, Scenes::busy, x -> x.shutGate(2));
        Twins.refuses("setRain", argument, Scenes::busy, x -> x.setRain(10));
        Twins.refuses("setDrain", argument, Scenes::busy, x -> x.setDrain(10));
        Twins.refuses("advance", argument, Scenes::busy, x -> x.advance(201));
        Twins.refuses("isHigher", index, Scenes::busy, x -> x.isHigher(0, 5));
        Twins.refuses("flow", index, Scenes::busy, x -> x.flow(4));
        Twins.refuses("basinByLevel", element, Scenes::busy, x -> x.basinByLevel(5));
        Twins.refuses("boatInOrder", element, Scenes::busy, x -> x.boatInOrder(8));
        Twins.refuses("floats", index, Scenes::busy, x -> x.floats(8, 0));
        Twins.refuses("leftTotal", argument, Scenes::busy, x -> x.leftTotal('x'));
        Twins.refuses("minutesUntilLeaving", index, Scenes::busy, x -> x.minutesUntilLeaving(8));
        Twins.refuses("minutesUntilEqual", element, Locks::make, x -> x.minutesUntilEqual(0));
        Twins.refuses("volumeAfter", argument, Scenes::busy, x -> x.volumeAfter(0, 201));
        Twins.refuses("eventKind", element, Scenes::busy, x -> x.eventKind(8));
        Twins.refuses("eventNumber", element, Scenes::busy, x -> x.eventNumber(8));
        Twins.refuses("renderBoat", index, Scenes::busy, x -> x.renderBoat(8));
        Twins.refuses("outputAt", index, Scenes::busy, x -> x.outputAt(4));
        Twins.refuses("type", argument, Scenes::busy, x -> x.type((char) 127));
        Twins.refuses("errorPosition", element, Locks::make, Locks::errorPosition);
        Twins.refuses("failedCommand", element, Locks::make, Locks::failedCommand);
        Twins.refuses("undo", element, Locks::make, Locks::undo);
        Twins.refuses("restore", state, () -> typed("wait"), Locks::restore);
        // runScript says otherwise, but only of the buffer and of one of the two positions.
        for (String script : new String[] {"4;?", "4;wait 0"}) {
            Supplier<Locks> ran = () -> {
                Locks locks = Scenes.busy();
                Twins.answer(locks, asking -> Scenes.run(asking, script));
                return locks;
            };
            Twins.covered("runScript, " + script, Scenes::busy, ran);
            Check.same("runScript, the changes", Twins.changesOf(Scenes.busy()), Twins.changesOf(ran.get()));
            Check.same("runScript, the output", Twins.outputOf(Scenes.busy()), Twins.outputOf(ran.get()));
            Check.same("runScript, the snapshot", Twins.snapshotOf(Scenes.busy()),
                    Twins.snapshotOf(ran.get()));
            Check.same("runScript, the buffer", 1, ran.get().type('w'));
        }
    }

    private static void severalExceptions() {
        Doc.says(Doc.TERMS, "If several exceptions apply, the one that is listed first is thrown.");
        Class<IndexOutOfBoundsException> index = IndexOutOfBoundsException.class;
        Class<IllegalArgumentException> argument = IllegalArgumentException.class;
        for (int draught : new int[] {0, 10}) {
            Twins.refuses("no draught and 8 boats", argument, () -> Scenes.withBoats(8),
                    x -> x.addBoat('r', draught, true));
        }
        Twins.refuses("no colour and 8 boats", argument, () -> Scenes.withBoats(8),
                x -> x.addBoat('x', 1, true));
        for (int valve : new int[] {-1, 4}) {
            for (int opening : new int[] {-1, 4}) {
                Twins.refuses("neither valve nor opening", index, Scenes::busy,
                        x -> x.setValve(valve, opening));
            }
        }
        Check.same("open and not equal", 9, openAndUnequal().equalizingAmount(0));
        Twins.refuses("open and not equal", IllegalStateException.class,
                TermsScriptsEdges::openAndUnequal, x -> x.openGate(0));
        for (int minutes : new int[] {-1, 201}) {
            for (int basin : new int[] {-1, 5}) {
                Twins.refuses("neither basin nor minutes", index, Scenes::busy,
                        x -> x.volumeAfter(basin, minutes));
            }
        }
        for (int code : new int[] {31, 127}) {
            Twins.refuses("no character and a full buffer", argument, () -> typed(SIXTY),
                    x -> x.type((char) code));
        }
        Locks script = Locks.make();
        Check.fails("no form and a command that fails", argument, () -> Scenes.run(script, "open 9;x"));
        Check.fails("no command has failed", NoSuchElementException.class, script::failedCommand);
        Check.same("the error position", 7, script.errorPosition());
    }

    /** Gate 0 is open; 15 litres have just gone on from basin 1. */
    static Locks openAndUnequal() {
        Locks locks = Scenes.later(Scenes.valves(3, 0, 0, 0), 2);
        locks.openGate(0);
        locks.setValve(1, 3);
        locks.advance(1);
        return locks;
    }
}
