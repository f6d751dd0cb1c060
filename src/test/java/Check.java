/** Counts and prints what is not as it is due; a test ends with end(). */
final class Check {

    interface Call {
        void run();
    }

    private static int asDue = 0;
    private static int wrong = 0;

    private Check() {
    }

    static void due(String what, Object got, Object want) {
        if (want.equals(got)) {
            asDue++;
        } else {
            wrong++;
            System.out.println(what + " answered " + got + ", due is " + want);
        }
    }

    static void dueThrow(String what, Class<? extends RuntimeException> want, Call call) {
        due(what, thrownBy(call), want.getSimpleName());
    }

    static void dueNoThrow(String what, Call call) {
        due(what, thrownBy(call), "nothing thrown");
    }

    /** A test of its own for one sentence of the document: what throws in it does not keep the others from running. */
    static void edge(String sentence, Call test) {
        int wrongBefore = wrong;
        dueNoThrow("the test", test);
        if (wrong > wrongBefore) {
            System.out.println("broken: " + sentence);
        }
    }

    private static String thrownBy(Call call) {
        try {
            call.run();
            return "nothing thrown";
        } catch (RuntimeException e) {
            return e.getClass().getSimpleName();
        }
    }

    static boolean anyWrong() {
        return wrong > 0;
    }

    static void end(String test) {
        System.out.println(test + ": " + asDue + " answers as due, " + wrong + " not");
        if (wrong > 0) {
            System.exit(1);
        }
    }
}
