/** Counts and prints the answers that are not due. */
final class Check {
    interface Call {
        void run();
    }

    private static int wrong = 0;
    private static int asked = 0;

    private Check() {
    }

    static void due(String what, long got, long want) {
        asked++;
        if (got != want) {
            wrong(what + " answered " + got + ", due is " + want);
        }
    }

    static void due(String what, double got, double want) {
        asked++;
        if (got != want) {
            wrong(what + " answered " + got + ", due is " + want);
        }
    }

    static void holds(String what, boolean holds) {
        asked++;
        if (!holds) {
            wrong(what + " does not hold");
        }
    }

    /** The call throws an IllegalStateException and changes nothing; Refusals is for whole tables of such calls. */
    static void badState(String what, IceHarbour x, Call call) {
        asked++;
        long before = x.digest();
        try {
            call.run();
            wrong(what + " threw nothing, due is IllegalStateException");
        } catch (RuntimeException e) {
            if (e.getClass() != IllegalStateException.class) {
                wrong(what + " threw " + e + ", due is IllegalStateException");
            }
        }
        if (x.digest() != before) {
            wrong(what + " threw and changed something");
        }
    }

    private static void wrong(String line) {
        wrong++;
        if (wrong <= 50) {
            System.out.println(line);
        }
    }

    static void end() {
        System.out.println(asked + " checks, " + wrong + " wrong");
        if (wrong != 0) {
            System.exit(1);
        }
    }
}
