/** What the tests share: comparing answers, counting the wrong ones, ending with the right code. */
final class Check {
    private static int checked = 0;
    private static int wrong = 0;
    private static String topic = "";

    private Check() {
    }

    /** What the next checks are about; a wrong answer is told under this heading. */
    static void about(String text) {
        topic = text;
    }

    static int checked() {
        return checked;
    }

    static void same(String what, long due, long got) {
        judge(due == got, what, due, got);
    }

    static void same(String what, double due, double got) {
        judge(due == got, what, due, got);
    }

    static void same(String what, char due, char got) {
        judge(due == got, what, due, got);
    }

    static void same(String what, boolean due, boolean got) {
        judge(due == got, what, due, got);
    }

    static void same(String what, String due, String got) {
        judge(due.equals(got), what, due, got);
    }

    static void holds(String what, boolean condition) {
        judge(condition, what, true, condition);
    }

    /** The call has to throw exactly this exception, no subclass of it. */
    static void fails(String what, Class<? extends RuntimeException> due, Runnable call) {
        judge(true, what, due, due);
        String got = "nothing";
        try {
            call.run();
        } catch (RuntimeException e) {
            if (e.getClass() == due) {
                return;
            }
            got = e.toString();
        }
        judge(false, what, due.getName(), got);
    }

    private static void judge(boolean isRight, String what, Object due, Object got) {
        checked++;
        if (!isRight) {
            wrong++;
            System.out.println((topic.isEmpty() ? "" : topic + "\n  ") + what + ": due is " + due
                    + ", answered " + got);
        }
    }

    static void end() {
        System.out.println(checked + " checks, " + wrong + " wrong");
        if (wrong > 0 || checked == 0) {
            System.exit(1);
        }
    }
}
