/** What the tests share: comparing answers, counting the wrong ones, ending with the right code. */
final class Check {
    private static int checked = 0;
    private static int wrong = 0;

    private Check() {
    }

    static void same(String what, long due, long got) {
        judge(due == got, what, due, got);
    }

    static void same(String what, double due, double got) {
        judge(due == got, what, due, got);
    }

    static void same(String what, char due, char got) {
        judge(due == got, what, due, got);
    }

    static void same(String what, boolean due, boolean got) {
        judge(due == got, what, due, got);
    }

    static void same(String what, String due, String got) {
        judge(due.equals(got), what, due, got);
    }

    static void holds(String what, boolean condition) {
        judge(condition, what, true, condition);
    }

    /** The call has to throw exactly this exception, no subclass of it. */
    static void fails(String what, Class<? extends RuntimeException> due, Runnable call) {
        judge(true, what, due, due);
        String got = "nothing";
        try {
            call.run();
        } catch (RuntimeException e) {
            if (e.getClass() == due) {
                return;
            }
            got = e.toString();
        }
        judge(false, what, due.getName(), got);
    }

    /** As fails, and the call has to leave everything but the script buffer as it was. */
    static void failsIdly(String what, Class<? extends RuntimeException> due, CanalLocks locks,
            Runnable call) {
        String before = stateOf(locks);
        fails(what, due, call);
        same(what + " changes nothing", before, stateOf(locks));
    }

    private static void judge(boolean isRight, String what, Object due, Object got) {
        checked++;
        if (!isRight) {
            wrong++;
            System.out.println(what + ": due is " + due + ", answered " + got);
        }
    }

    static void end() {
        System.out.println(checked + " checks, " + wrong + " wrong");
        if (wrong > 0 || checked == 0) {
            System.exit(1);
        }
    }

    // What many tests need of the locks.

    /** Locks whose basins are nearly level, after 200 minutes with all valves wide open. */
    static CanalLocks levelled() {
        CanalLocks locks = new CanalLocks();
        for (int valve = 0; valve < 4; valve++) {
            locks.setValve(valve, 3);
        }
        locks.advance(200);
        for (int valve = 0; valve < 4; valve++) {
            locks.setValve(valve, 0);
        }
        return locks;
    }

    /** Levelled locks with all gates open. */
    static CanalLocks open() {
        CanalLocks locks = levelled();
        for (int gate = 0; gate < 4; gate++) {
            locks.openGate(gate);
        }
        return locks;
    }

    static void type(CanalLocks locks, String text) {
        for (int index = 0; index < text.length(); index++) {
            locks.type(text.charAt(index));
        }
    }

    static int run(CanalLocks locks, String text) {
        type(locks, text);
        return locks.runScript();
    }

    static String outputOf(CanalLocks locks, int length) {
        StringBuilder text = new StringBuilder();
        for (int index = 0; index < length; index++) {
            text.append(locks.outputAt(index));
        }
        return text.toString();
    }

    static String volumesOf(CanalLocks locks) {
        StringBuilder text = new StringBuilder();
        for (int basin = 0; basin < 5; basin++) {
            text.append(basin == 0 ? "" : " ").append(locks.volume(basin));
        }
        return text.toString();
    }

    static String basinsOf(CanalLocks locks) {
        StringBuilder text = new StringBuilder();
        for (int boat = 0; boat < locks.boatCount(); boat++) {
            text.append(boat == 0 ? "" : " ").append(locks.basinOf(boat));
        }
        return text.toString();
    }

    /** The remembered events, the latest first. */
    static String eventsOf(CanalLocks locks) {
        StringBuilder text = new StringBuilder();
        for (int recency = 0; recency < locks.eventCount(); recency++) {
            text.append(recency == 0 ? "" : " ");
            text.append(locks.eventKind(recency)).append(locks.eventNumber(recency));
        }
        return text.toString();
    }

    /** All that undo and the snapshot cover, as the face tells it. */
    static String stateOf(CanalLocks locks) {
        StringBuilder text = new StringBuilder();
        text.append("time ").append(locks.time());
        text.append(" volumes ").append(volumesOf(locks));
        text.append(" gates");
        for (int gate = 0; gate < 4; gate++) {
            text.append(' ').append(locks.opening(gate)).append(locks.isOpen(gate));
        }
        text.append(" weather ").append(locks.rain()).append(' ').append(locks.drain());
        text.append(" totals ").append(locks.rainTotal()).append(' ').append(locks.drainTotal());
        text.append(' ').append(locks.spilledTotal());
        text.append(" boats");
        for (int boat = 0; boat < locks.boatCount(); boat++) {
            text.append(' ').append(locks.colour(boat)).append(locks.draught(boat));
            text.append(locks.isGoingDown(boat)).append(locks.basinOf(boat));
        }
        text.append(" left ").append(locks.leftTotal('r')).append(' ').append(locks.leftTotal('g'));
        text.append(' ').append(locks.leftTotal('b'));
        return text.append(" events ").append(eventsOf(locks)).toString();
    }
}
