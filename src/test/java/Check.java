/** Counts and prints the answers that are not the ones that are due. */
final class Check {
    private static int wrong = 0;
    private static String place = "";

    private Check() {
    }

    /** What is told ahead of each wrong answer from now on. */
    static void at(String where) {
        place = where;
    }

    static void due(String what, long got, long want) {
        if (got != want) {
            fail(what + " answered " + got + ", due is " + want);
        }
    }

    static void due(String what, double got, double want) {
        if (Double.doubleToLongBits(got) != Double.doubleToLongBits(want)) {
            fail(what + " answered " + got + ", due is " + want);
        }
    }

    static void due(String what, boolean holds) {
        if (!holds) {
            fail(what + " does not hold");
        }
    }

    /** The call throws exactly this exception, and the object tells the same afterwards as before. */
    static void refused(String what, RestedArms arms, Class<? extends RuntimeException> want, Runnable call) {
        long before = arms.digest();
        try {
            call.run();
            fail(what + " throws nothing, due is " + want.getName());
        } catch (RuntimeException e) {
            if (e.getClass() != want) {
                fail(what + " throws " + e.getClass().getName() + ", due is " + want.getName());
            }
        }
        due(what + ": digest behind the exception", arms.digest(), before);
    }

    static void fail(String what) {
        wrong++;
        if (wrong <= 50) {
            System.out.println(place + what);
        }
    }

    static void end() {
        System.out.println(wrong == 0 ? "all answers are as due" : wrong + " answers are not as due");
        if (wrong != 0) {
            System.exit(1);
        }
    }
}
