import java.lang.reflect.InvocationTargetException;
import java.lang.reflect.Method;
import java.util.Arrays;

/** All promises: long mixed runs with wild arguments, in which IceHarbour must do as Model does. */
public final class RandomRunsTest {
    private static final int RUNS = 200;
    private static final int CALLS = 512;
    private static final int TABLE = 40;
    private static final int SET_UP = 60;

    /**
     * A call, how often it comes, and its parameters: m a merchant, h a harbour, b a boat, d a debt, l a leg,
     * g a good, t a day of the table, w how warm it is in this run, y a day that is due, a number: 0 to this,
     * and -: as many below 0 too, ! yes or no.
     */
    private static final String[] CALLS_OF_A_RUN = {
        "setWarm 12 t w", "addHarbour 4 9 5", "setPrice 15 h g 50", "harbour 15 h 7", "leg 15 l 3",
        "addMerchant 3 40", "bring 60 m h g 100", "sell 20 m h g 30", "stock 15 m h g", "merchant 25 m 5",
        "build 9 m h 60", "load 60 b g -20", "send 60 b h", "berth 50 b !", "mend 12 b", "boat 15 b 11",
        "lend 60 m m h g 30 y", "repay 20 d h", "debt 20 d 6", "pass 70 6", "pass 2 60", "count 15 9",
        "opens 20 l", "arrives 40 b", "latest 40 h h", "advise 40 b 60", "advise 40 b 25", "mean 10", "digest 5",
    };

    private static long seed;

    public static void main(String[] args) throws IllegalAccessException {
        for (int run = 0; run < RUNS; run++) {
            seed = 1000003L * run + 17;
            oneRun(run);
        }
        Check.end();
    }

    private static int below(int bound) {
        seed = seed * 6364136223846793005L + 1442695040888963407L;
        return (int) Math.floorMod(seed >>> 33, (long) bound);
    }

    private static void oneRun(int run) throws IllegalAccessException {
        IceHarbour real = new IceHarbour();
        Model model = new Model();
        StringBuilder past = new StringBuilder();
        int mildDays = 10 + below(28);
        // An object is used for at most 512 calls: in one run of two, half of them look whether the state is right.
        boolean looks = run % 2 == 0;
        int calls = looks ? CALLS / 2 : CALLS;
        for (int k = 0; k < calls; k++) {
            String[] call = (k < SET_UP ? setUp(k) : drawCall()).split(" ");
            Object[] arguments = drawArguments(call, model, mildDays, k >= SET_UP);
            if (k < TABLE) {
                arguments[0] = k;
            }
            String shown = call[0] + Arrays.toString(arguments);
            String got = outcome(real, IceHarbour.class, call[0], arguments);
            String due = outcome(model, Model.class, call[0], arguments);
            past.append(shown).append(' ');
            Check.holds("run " + run + ", call " + k + ": " + shown + " answered " + got + ", due is " + due
                + ": this", got.equals(due));
            if (looks && real.digest() != model.digest()) {
                Check.holds("run " + run + ": the state behind " + past, false);
                return;
            }
        }
    }

    /** First all days of the table, then as much river and as many boats as the rest of a run can use. */
    private static String setUp(int k) {
        String[] first = {"addHarbour 0 9 5", "addHarbour 0 9 3", "addMerchant 0 400", "addMerchant 0 60"};
        if (k < TABLE) {
            return "setWarm 0 t w";
        }
        if (k < TABLE + first.length) {
            return first[k - TABLE];
        }
        String[] more = {"build 0 m h 60", "bring 0 m h g 100", "addHarbour 0 4 2"};
        return more[k % 3];
    }

    private static String drawCall() {
        int all = 0;
        for (String call : CALLS_OF_A_RUN) {
            all += Integer.parseInt(call.split(" ")[1]);
        }
        int drawn = below(all);
        for (String call : CALLS_OF_A_RUN) {
            drawn -= Integer.parseInt(call.split(" ")[1]);
            if (drawn < 0) {
                return call;
            }
        }
        return "digest 5";
    }

    private static Object[] drawArguments(String[] call, Model model, int mildDays, boolean wild) {
        Object[] arguments = new Object[call.length - 2];
        for (int k = 0; k < arguments.length; k++) {
            String kind = call[k + 2];
            if (kind.equals("!")) {
                arguments[k] = below(4) != 0;
            } else if (wild && below(40) == 0) {
                arguments[k] = wildNumber();
            } else {
                arguments[k] = tameNumber(kind, model, mildDays);
            }
        }
        return arguments;
    }

    private static int wildNumber() {
        int[] wild = {Integer.MIN_VALUE, Integer.MIN_VALUE + 1, -1, 0, Integer.MAX_VALUE, Integer.MAX_VALUE - 1};
        int k = below(wild.length + 2);
        return k < wild.length ? wild[k] : below(240) - 80;
    }

    private static int tameNumber(String kind, Model model, int mildDays) {
        switch (kind) {
            case "m": return below(Math.max(1, model.count(2)));
            case "h": return below(Math.max(1, model.count(1)));
            case "b": return below(Math.max(1, model.count(3)));
            case "d": return below(Math.max(1, model.count(6)));
            case "l": return below(Math.max(1, model.count(1) - 1));
            case "g": return below(8) == 0 ? below(4) : 0;
            case "t": return below(40);
            case "w": return below(40) < mildDays ? below(7) : -below(10);
            case "y": return model.count(0) + below(25);
            default:
                int most = Integer.parseInt(kind);
                return most < 0 ? below(1 - 2 * most) + most : below(most + 1);
        }
    }

    private static String outcome(Object x, Class<?> c, String name, Object[] arguments) throws IllegalAccessException {
        for (Method m : c.getDeclaredMethods()) {
            if (m.getName().equals(name) && m.getParameterCount() == arguments.length) {
                try {
                    return String.valueOf(m.invoke(x, arguments));
                } catch (InvocationTargetException e) {
                    return e.getCause().getClass().getName();
                }
            }
        }
        throw new IllegalStateException("no call " + name);
    }
}
