/** Counts the answers that are not as due, and ends a test with exit code 1 if there was one. */
final class Check {
    private static int checks = 0;
    private static int wrong = 0;

    private Check() {
    }

    interface Call {
        void run();
    }

    static void same(String what, long due, long got) {
        checks++;
        if (due != got) {
            tellWrong(what + " answered " + got + ", due is " + due);
        }
    }

    static void yes(String what, boolean got) {
        same(what, 1, got ? 1 : 0);
    }

    static void no(String what, boolean got) {
        same(what, 0, got ? 1 : 0);
    }

    static void throwing(String what, Class<? extends RuntimeException> due, Call call) {
        checks++;
        try {
            call.run();
            tellWrong(what + " threw nothing, due is " + due.getName());
        } catch (RuntimeException e) {
            if (e.getClass() != due) {
                tellWrong(what + " threw " + e.getClass().getName() + ", due is " + due.getName());
            }
        }
    }

    static void tellWrong(String text) {
        wrong++;
        System.out.println(text);
    }

    static void end() {
        System.out.println(checks + " checks, " + wrong + " wrong");
        if (wrong != 0 || checks == 0) {
            System.exit(1);
        }
    }
}
