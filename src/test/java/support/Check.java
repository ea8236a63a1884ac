import java.util.concurrent.Callable;

/** Counts the answers that are not as due. */
final class Check {
    private static int done = 0;
    private static int wrong = 0;
    private static String heading = "";

    private Check() {
    }

    interface Act {
        void run() throws Exception;
    }

    /** What a call answers, or the name of what it throws, as the issues write it. */
    static String answer(Callable<?> call) {
        try {
            return String.valueOf(call.call());
        } catch (Exception e) {
            return "throws." + e.getClass().getSimpleName();
        }
    }

    static String act(Act call) {
        return answer(() -> {
            call.run();
            return "nothing";
        });
    }

    static void due(String what, Object got, Object due) {
        done++;
        if (!String.valueOf(got).equals(String.valueOf(due))) {
            wrong++;
            System.out.println(heading + what + ": answered " + got + ", due is " + due);
        }
    }

    static void due(String what, Object due, Callable<?> call) {
        due(what, answer(call), due);
    }

    static void illegal(String what, Callable<?> call) {
        due(what, "throws.IllegalArgumentException", call);
    }

    static void state(String what, Callable<?> call) {
        due(what, "throws.IllegalStateException", call);
    }

    static void none(String what, Callable<?> call) {
        due(what, "throws.NoSuchElementException", call);
    }

    /** A call without an answer is checked for what it throws; "nothing" means that it throws nothing. */
    static void acts(String what, String due, Act call) {
        due(what, act(call), due);
    }

    static int done() {
        return done;
    }

    /** What is wrong in these tests is told under a heading. */
    static void under(String words, Runnable tests) {
        heading = words;
        tests.run();
        heading = "";
    }

    static void end(String test) {
        System.out.println(test + ": " + (done - wrong) + " of " + done + " answers are as due");
        if (wrong != 0 || done == 0) {
            System.exit(1);
        }
    }
}
