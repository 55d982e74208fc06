/** Counts and prints the answers that are not due. */
final class Check {
    interface Call {
        void run();
    }

    private static int wrong = 0;
    private static int asked = 0;

    private Check() {
    }

    static void due(String what, long got, long want) {
        asked++;
        if (got != want) {
            wrong(what + " answered " + got + ", due is " + want);
        }
    }

    static void due(String what, double got, double want) {
        asked++;
        if (got != want) {
            wrong(what + " answered " + got + ", due is " + want);
        }
    }

    static void holds(String what, boolean holds) {
        asked++;
        if (!holds) {
            wrong(what + " does not hold");
        }
    }

    static void outOfBounds(String what, IceHarbour x, Call call) {
        refused(what, x, call, IndexOutOfBoundsException.class);
    }

    static void badArgument(String what, IceHarbour x, Call call) {
        refused(what, x, call, IllegalArgumentException.class);
    }

    static void badState(String what, IceHarbour x, Call call) {
        refused(what, x, call, IllegalStateException.class);
    }

    /** The call throws just this class (the machine's own exceptions are below it) and changes nothing. */
    private static void refused(String what, IceHarbour x, Call call, Class<?> due) {
        asked++;
        long before = x.digest();
        try {
            call.run();
            wrong(what + " threw nothing, due is " + due.getName());
        } catch (RuntimeException e) {
            if (e.getClass() != due) {
                wrong(what + " threw " + e + ", due is " + due.getName());
            }
        }
        if (x.digest() != before) {
            wrong(what + " threw and changed something");
        }
    }

    private static void wrong(String line) {
        wrong++;
        if (wrong <= 50) {
            System.out.println(line);
        }
    }

    static void end() {
        System.out.println(asked + " checks, " + wrong + " wrong");
        if (wrong != 0) {
            System.exit(1);
        }
    }
}
