import java.util.NoSuchElementException;

/** Promises 45 to 51: output and scripts. */
final class ScriptsTest {
    public static void main(String[] args) {
        renderLevels();
        renderBoat();
        outputAt();
        type();
        commands();
        everyDigit();
        waits();
        noForm();
        failedCommands();
        allOrNothing();
        theBufferIsEmptied();
        errorPosition();
        failedCommand();
        Check.end();
    }

    private static void renderLevels() {
        Locks locks = Locks.make();
        Check.same("45: at first", "30|24|18|12|6", Scenes.outputOf(locks, locks.renderLevels()));
        Check.same("45: the length", 13, locks.renderLevels());
        locks.setValve(0, 3);
        locks.advance(2);
        locks.openGate(0);
        Check.same("45: an open gate", "27/27|18|12|6", Scenes.outputOf(locks, locks.renderLevels()));
        Locks open = Scenes.open();
        open.shutGate(2);
        int length = open.renderLevels();
        String text = Scenes.outputOf(open, length);
        String due = open.level(0) + "/" + open.level(1) + "/" + open.level(2) + "|" + open.level(3)
                + "/" + open.level(4);
        Check.same("45: open gates", due, text);
        Locks low = Locks.make();
        low.setDrain(9);
        for (int valve = 0; valve < 4; valve++) {
            low.setValve(valve, 3);
        }
        low.advance(200);
        Check.same("45: all empty", "0|0|0|0|0", Scenes.outputOf(low, low.renderLevels()));
        Check.same("45: the length then", 9, low.renderLevels());
    }

    private static void renderBoat() {
        Locks locks = Scenes.open();
        locks.addBoat('r', 3, true);
        locks.addBoat('g', 9, false);
        locks.addBoat('b', 1, false);
        Check.same("46: the length", 4, locks.renderBoat(0));
        Check.same("46: a red boat", "r3v0", Scenes.outputOf(locks, locks.renderBoat(0)));
        Check.same("46: a green boat", "g9^4", Scenes.outputOf(locks, locks.renderBoat(1)));
        Check.same("46: a blue boat", "b1^4", Scenes.outputOf(locks, locks.renderBoat(2)));
        locks.advance(2);
        Check.same("46: under way", "r3v2", Scenes.outputOf(locks, locks.renderBoat(0)));
        locks.advance(2);
        Check.same("46: with a lower index", "b1^2", Scenes.outputOf(locks, locks.renderBoat(0)));
    }

    private static void outputAt() {
        Locks locks = Locks.make();
        locks.renderLevels();
        Check.same("47: the first", '3', locks.outputAt(0));
        Check.same("47: the last", '6', locks.outputAt(12));
        locks.addBoat('g', 5, true);
        locks.renderBoat(0);
        Check.same("47: replaced", "g5v0", Scenes.outputOf(locks, 4));
        locks.undo();
        locks.save();
        locks.restore();
        Check.same("47: undo and restore leave it", "g5v0", Scenes.outputOf(locks, 4));
    }

    private static void type() {
        Locks locks = Locks.make();
        for (int length = 1; length <= 60; length++) {
            char sign = length == 1 ? (char) 32 : length == 2 ? (char) 126 : 'w';
            Check.same("48: the length", length, locks.type(sign));
        }
        for (int round = 0; round < 2; round++) {
            Check.fails("48: full", IllegalStateException.class, () -> locks.type('a'));
            Check.fails("48: the code comes first", IllegalArgumentException.class,
                    () -> locks.type((char) 127));
        }
        Check.fails("49: no script", IllegalArgumentException.class, locks::runScript);
        Check.same("48: empty again", 1, locks.type('w'));
        locks.setRain(1);
        locks.undo();
        locks.save();
        locks.restore();
        Check.same("48: undo and restore leave the buffer", 2, locks.type('a'));
    }

    private static void commands() {
        Locks locks = Locks.make();
        Check.same("49: boats", 4, Scenes.run(locks, "boat r3 d;boat g9 u;boat b1 d;boat r2 u"));
        Check.same("49: how many", 4, locks.boatCount());
        Check.same("49: the boats", "r3v0 g9^4 b1v0 r2^4", boatsOf(locks));
        Check.same("49: valves", 2, Scenes.run(locks, "valve 0 3;valve 3 1"));
        Check.same("49: the valves", "3 0 0 1", locks.opening(0) + " " + locks.opening(1) + " "
                + locks.opening(2) + " " + locks.opening(3));
        Check.same("49: weather", 2, Scenes.run(locks, "rain 7;drain 4"));
        Check.same("49: the weather", "7 4", locks.rain() + " " + locks.drain());
        Check.same("49: dry again", 2, Scenes.run(locks, "drain 0;rain 0"));
        Check.same("49: one", 1, Scenes.run(locks, "wait 2"));
        Check.same("49: opens", 1, Scenes.run(locks, "open 0"));
        Check.holds("49: open", locks.isOpen(0));
        Check.same("49: shuts", 1, Scenes.run(locks, "shut 0"));
        Check.holds("49: shut", !locks.isOpen(0));
        Check.same("49: later commands see what earlier ones did", 4,
                Scenes.run(locks, "open 0;shut 0;open 0;wait"));
        Check.same("49: in order", "r3v1 g9^4 b1v0 r2^4", boatsOf(locks));
        Check.same("49: twelve commands", 12,
                Scenes.run(locks, "wait;wait;wait;wait;wait;wait;wait;wait;wait;wait;wait;wait"));
        Check.same("49: twelve minutes more", 15, locks.time());
        Check.same("49: sixty characters", 8,
                Scenes.run(locks, "wait 001;wait;wait;wait 9;wait 09;wait 009;wait 10;wait 2000".substring(0, 59)));
    }

    private static String boatsOf(Locks locks) {
        String text = "";
        for (int boat = 0; boat < locks.boatCount(); boat++) {
            text += (boat == 0 ? "" : " ") + Scenes.outputOf(locks, locks.renderBoat(boat));
        }
        return text;
    }

    private static void everyDigit() {
        for (int digit = 0; digit <= 9; digit++) {
            Locks locks = Locks.make();
            Scenes.run(locks, "rain " + digit + ";drain " + digit);
            Check.same("49: digit " + digit, digit + " " + digit, locks.rain() + " " + locks.drain());
            Scenes.run(locks, "wait 1" + digit + ";wait 1" + digit + digit);
            Check.same("49: wait with " + digit, 10 + digit + 100 + 11 * digit, locks.time());
            String gates = "valve " + digit + " 0;open " + digit;
            Check.fails("49: form of " + gates, IllegalStateException.class,
                    () -> Scenes.run(locks, gates));
            String valve = "valve 0 " + digit + ";shut " + digit;
            Check.fails("49: form of " + valve, IllegalStateException.class,
                    () -> Scenes.run(locks, valve));
            if (digit > 0) {
                Scenes.run(locks, "boat g" + digit + " u");
                Check.same("49: draught " + digit, digit, locks.draught(0));
            }
        }
    }

    private static void waits() {
        String[] scripts = {"wait", "wait 1", "wait 9", "wait 10", "wait 99", "wait 100", "wait 200",
            "wait 001", "wait 07", "wait 010", "wait;wait 2", "wait 200;wait 200"};
        int[] minutes = {1, 1, 9, 10, 99, 100, 200, 1, 7, 10, 3, 400};
        for (int index = 0; index < scripts.length; index++) {
            Locks locks = Locks.make();
            Scenes.run(locks, scripts[index]);
            Check.same("49: " + scripts[index], minutes[index], locks.time());
        }
        for (String script : new String[] {"wait 0", "wait 00", "wait 000", "wait 201", "wait 999"}) {
            Check.fails("49: " + script, IllegalStateException.class,
                    () -> Scenes.run(Locks.make(), script));
        }
    }

    /** Scripts without the form, each with its error position. */
    private static void noForm() {
        Object[][] scripts = {
            {"", 0}, {"?", 0}, {" ", 0}, {";", 0}, {"x", 0}, {"W", 0}, {"1", 0}, {"a", 0}, {"e", 0},
            {"b", 1}, {"boat", 4}, {"boat ", 5}, {"boat r", 6}, {"boat r3", 7}, {"boat r3 ", 8},
            {"boats", 4}, {"boat  ", 5}, {"boat x", 5}, {"boat R", 5}, {"boat rx", 6}, {"boat r10 d", 7},
            {"boat r3d", 7}, {"boat r3 x", 8}, {"boat r3 dx", 9}, {"boat r3 d ", 9}, {"boat r3 d;", 10},
            {"boat d3 r", 5}, {"bx", 1}, {"v", 1}, {"valve", 5}, {"valve ", 6}, {"valve 1", 7},
            {"valve 1 ", 8}, {"valve 12", 7}, {"valve x", 6}, {"valve 1 x", 8}, {"valve 1 22", 9},
            {"valve1", 5}, {"open", 4}, {"open ", 5}, {"open x", 5}, {"open 12", 6}, {"open 1 ", 6},
            {"oven 1", 1}, {"shut", 4}, {"shut ", 5}, {"shut -", 5}, {"shut 1;", 7}, {"set", 1},
            {"rain", 4}, {"rain ", 5}, {"rain 10", 6}, {"rain :", 5}, {"rain /", 5}, {"red", 1},
            {"drain", 5}, {"drain ", 6}, {"drain 10", 7}, {"drain x", 6}, {"dr", 2}, {"dx", 1},
            {"w", 1}, {"wai", 3}, {"wait ", 5}, {"wait x", 5}, {"wait  1", 5}, {"wait1", 4},
            {"wait 1 ", 6}, {"wait 1x", 6}, {"wait 12x", 7}, {"wait 1234", 8}, {"wait 123 ", 8},
            {"wait;", 5}, {"wait; ", 5}, {"wait;;", 5}, {"wait; wait", 5}, {"wait ;", 5}, {"wait,wait", 4},
            {"rain 1;drain 1;x", 15}, {"rain 1;drain 1;valve 1", 22}, {"waiT", 3}, {"WAIT", 0},
            {"rain 3;boat r0 d;wait 999;x", 26},
        };
        for (Object[] row : scripts) {
            Locks locks = Locks.make();
            String script = (String) row[0];
            Check.fails("49: form of '" + script + "'", IllegalArgumentException.class,
                    () -> Scenes.run(locks, script));
            Check.same("50: of '" + script + "'", (Integer) row[1], locks.errorPosition());
            Check.fails("51: no command failed", NoSuchElementException.class, locks::failedCommand);
            Check.fails("49: no change", NoSuchElementException.class, locks::undo);
        }
        String twelve = "wait;wait;wait;wait;wait;wait;wait;wait;wait;wait;wait;wait";
        Locks locks = Locks.make();
        Check.fails("49: an end too early", IllegalArgumentException.class,
                () -> Scenes.run(locks, twelve + ";"));
        Check.same("50: the whole length", 60, locks.errorPosition());
        Check.fails("49: the last character", IllegalArgumentException.class,
                () -> Scenes.run(locks, twelve + "?"));
        Check.same("50: the last position", 59, locks.errorPosition());
    }

    private static void failedCommands() {
        String[] scripts = {"boat r0 d", "boat b0 u", "valve 4 0", "valve 9 9", "valve 0 4", "valve 3 9",
            "open 4", "open 9", "open 0", "open 3", "shut 0", "shut 4", "shut 9", "wait 0", "wait 201"};
        for (String script : scripts) {
            for (int before = 0; before < 3; before++) {
                Locks locks = Locks.make();
                String whole = "rain 2;drain 3;rain 4;".substring(0, new int[] {0, 7, 15}[before])
                        + script + ";wait;boat r1 d";
                Check.fails("49: " + whole, IllegalStateException.class, () -> Scenes.run(locks, whole));
                Check.same("51: " + whole, before, locks.failedCommand());
                Check.fails("50: the form was right", NoSuchElementException.class, locks::errorPosition);
                Check.fails("49: no change", NoSuchElementException.class, locks::undo);
            }
        }
        Locks full = Locks.make();
        for (int boat = 0; boat < 6; boat++) {
            full.addBoat('r', 1, true);
        }
        Check.fails("49: a ninth boat", IllegalStateException.class,
                () -> Scenes.run(full, "boat g1 d;boat g1 u;boat g1 d"));
        Check.same("51: the third", 2, full.failedCommand());
    }

    private static void allOrNothing() {
        Locks locks = Scenes.levelled();
        locks.openGate(0);
        locks.addBoat('r', 1, true);
        String before = Scenes.stateOf(locks);
        Check.fails("49: the last one fails", IllegalStateException.class,
                () -> Scenes.run(locks, "rain 9;wait 50;boat b3 u;valve 2 2;open 3;shut 0;shut 0"));
        Check.same("51: the last", 6, locks.failedCommand());
        Check.same("49: none takes effect", before, Scenes.stateOf(locks));
        Check.same("49: all take effect", 6,
                Scenes.run(locks, "rain 9;wait 50;boat b3 u;valve 2 2;open 3;shut 0"));
        Check.same("49: their effects", "9 250 2 2 true false", locks.rain() + " " + locks.time() + " "
                + locks.boatCount() + " " + locks.opening(2) + " " + locks.isOpen(3) + " "
                + locks.isOpen(0));
        int left = locks.undo();
        Check.same("49: one change", "0 200 1", locks.rain() + " " + locks.time() + " "
                + locks.boatCount());
        Check.same("49: the others stay", 7, left);
    }

    private static void theBufferIsEmptied() {
        Locks locks = Locks.make();
        Scenes.run(locks, "wait");
        Check.same("49: after a script", 1, locks.type('w'));
        Check.fails("49: no form", IllegalArgumentException.class, locks::runScript);
        Check.same("49: after one without the form", 1, locks.type('s'));
        Scenes.type(locks, "hut 0");
        Check.fails("49: fails", IllegalStateException.class, locks::runScript);
        Check.same("49: after one that failed", 1, locks.type('w'));
        Scenes.type(locks, "ait 3");
        Check.same("49: one command", 1, locks.runScript());
        Check.same("49: four minutes", 4, locks.time());
        // What an earlier script has left behind the end is no part of a later one.
        Check.fails("49: a shorter script", IllegalArgumentException.class, () -> Scenes.run(locks, "wai"));
        Check.same("50: it ends there", 3, locks.errorPosition());
        Check.fails("49: none at all", IllegalArgumentException.class, locks::runScript);
        Check.same("50: at once", 0, locks.errorPosition());
    }

    private static void errorPosition() {
        Locks locks = Locks.make();
        Class<NoSuchElementException> due = NoSuchElementException.class;
        Check.fails("50: none yet", due, locks::errorPosition);
        Scenes.run(locks, "wait");
        Check.fails("50: still none", due, locks::errorPosition);
        Check.fails("50: one", IllegalArgumentException.class, () -> Scenes.run(locks, "waits"));
        Check.same("50: its position", 4, locks.errorPosition());
        Scenes.run(locks, "wait");
        Check.fails("50: fails", IllegalStateException.class, () -> Scenes.run(locks, "shut 0"));
        locks.save();
        locks.undo();
        locks.restore();
        Check.same("50: the latest stays", 4, locks.errorPosition());
        Check.fails("50: another", IllegalArgumentException.class, () -> Scenes.run(locks, ""));
        Check.same("50: its position", 0, locks.errorPosition());
    }

    private static void failedCommand() {
        Locks locks = Locks.make();
        Class<NoSuchElementException> due = NoSuchElementException.class;
        Check.fails("51: none yet", due, locks::failedCommand);
        Scenes.run(locks, "wait");
        Check.fails("51: still none", due, locks::failedCommand);
        Check.fails("51: no form", IllegalArgumentException.class, () -> Scenes.run(locks, "shut 0;x"));
        Check.fails("51: none failed", due, locks::failedCommand);
        Check.fails("51: one", IllegalStateException.class, () -> Scenes.run(locks, "wait;shut 0"));
        Check.same("51: its index", 1, locks.failedCommand());
        Scenes.run(locks, "wait");
        locks.save();
        locks.undo();
        locks.restore();
        Check.same("51: the latest stays", 1, locks.failedCommand());
        Check.fails("51: another", IllegalStateException.class, () -> Scenes.run(locks, "shut 0;wait"));
        Check.same("51: its index", 0, locks.failedCommand());
    }
}
