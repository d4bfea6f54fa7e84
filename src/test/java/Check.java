/** Counts and tells what is not as due. */
final class Check {
    private final String test;
    private int wrong = 0;
    private int looked = 0;

    Check(String test) {
        this.test = test;
    }

    void same(String what, Object want, Object got) {
        looked++;
        if (!want.equals(got)) {
            wrong++;
            System.out.println(test + ": " + what + " answered " + got + ", due is " + want);
        }
    }

    int looked() {
        return looked;
    }

    /** The call must throw exactly this class, not one below it. */
    void fails(String what, Class<? extends RuntimeException> want, Runnable call) {
        same(what, "throws " + want.getSimpleName(), outcome(call));
    }

    private static String outcome(Runnable call) {
        try {
            call.run();
            return "throws nothing";
        } catch (RuntimeException e) {
            return "throws " + e.getClass().getSimpleName();
        }
    }

    /** Ends the test; exit code 1 if an answer was wrong, or if nothing was looked at. */
    void end() {
        System.out.println(test + ": " + looked + " answers, " + wrong + " of them wrong");
        if (wrong > 0 || looked == 0) {
            System.exit(1);
        }
    }
}
