import java.util.concurrent.Callable;

/** Compares answers with those that are due; an exception counts as the answer throws.Name. */
final class Check {
    private static final int MOST_TOLD = 50;
    private static int wrong = 0;
    private static int made = 0;
    private static String under = "";

    private Check() {
    }

    static String answer(Callable<Integer> call) {
        try {
            return String.valueOf(call.call());
        } catch (Exception e) {
            return "throws." + e.getClass().getSimpleName();
        }
    }

    static void same(String what, String got, String due) {
        made++;
        if (!got.equals(due)) {
            wrong++;
            if (wrong <= MOST_TOLD) {
                System.out.println(under + what + " answered " + got + ", due is " + due);
            }
        }
    }

    static void is(String what, int due, Callable<Integer> call) {
        same(what, answer(call), String.valueOf(due));
    }

    static void index(String what, Callable<Integer> call) {
        same(what, answer(call), "throws.IndexOutOfBoundsException");
    }

    static void argument(String what, Callable<Integer> call) {
        same(what, answer(call), "throws.IllegalArgumentException");
    }

    static void state(String what, Callable<Integer> call) {
        same(what, answer(call), "throws.IllegalStateException");
    }

    /** Runs the test of one sentence; a wrong answer in it is told with the sentence. */
    static void sentence(int promise, String words, Runnable test) {
        under = "promise " + promise + ", \"" + words + "\": ";
        int before = made;
        try {
            test.run();
        } catch (RuntimeException e) {
            same("the test", "throws." + e.getClass().getSimpleName(), "no exception");
        }
        same("asks at least once", "" + (made > before), "true");
        under = "";
    }

    static void works(String what, Callable<Integer> call) {
        String got = answer(call);
        same(what, got.startsWith("throws.") ? got : "a number", "a number");
    }

    static int wrong() {
        return wrong;
    }

    static void end(String tests) {
        System.out.println(tests + ": " + made + " answers, " + wrong + " of them wrong");
        if (wrong > 0) {
            System.exit(1);
        }
    }
}
