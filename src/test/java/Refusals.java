import java.util.ArrayList;
import java.util.Arrays;
import java.util.List;

/**
 * A call, and the values that each of its arguments is tried with, in all ways together: what throws and what
 * does not, of several exceptions the one that is named first, and that one that is thrown changes nothing.
 */
final class Refusals {
    interface Call {
        void on(IceHarbour x, int[] arguments);
    }

    /** In the order in which each promise of the document names them. */
    private enum Due {
        OUT_OF_BOUNDS(IndexOutOfBoundsException.class), BAD_ARGUMENT(IllegalArgumentException.class),
        BAD_STATE(IllegalStateException.class), NOTHING(null);

        final Class<?> thrown;

        Due(Class<?> thrown) {
            this.thrown = thrown;
        }

        Due orEarlier(Due other) {
            return ordinal() <= other.ordinal() ? this : other;
        }
    }

    private record Value(int value, Due due) {
    }

    private final String name;
    private final Answers.Maker maker;
    private final Call call;
    private final List<List<Value>> arguments = new ArrayList<>();
    private Due ofTheState = Due.NOTHING;
    private List<String> before;

    Refusals(String name, Answers.Maker maker, Call call) {
        this.name = name;
        this.maker = maker;
        this.call = call;
    }

    /** Even a call with fine arguments is refused in the state that the maker makes. */
    Refusals neverNow() {
        ofTheState = Due.BAD_STATE;
        return this;
    }

    /** The next argument, with values for which it is fine. */
    Refusals fine(int... values) {
        arguments.add(new ArrayList<>());
        return add(values, Due.NOTHING);
    }

    Refusals outOfBounds(int... values) {
        return add(values, Due.OUT_OF_BOUNDS);
    }

    Refusals badArgument(int... values) {
        return add(values, Due.BAD_ARGUMENT);
    }

    Refusals badState(int... values) {
        return add(values, Due.BAD_STATE);
    }

    /** The next argument, a number of one of so many things. */
    Refusals index(int count) {
        return fine(count == 0 ? new int[0] : new int[] {0, count - 1})
            .outOfBounds(-1, count, Integer.MIN_VALUE, Integer.MAX_VALUE);
    }

    /** The next argument, a number within bounds. */
    Refusals number(int least, int most) {
        return fine(least, most).badArgument(least - 1, most + 1, Integer.MIN_VALUE, Integer.MAX_VALUE);
    }

    private Refusals add(int[] values, Due due) {
        for (int value : values) {
            arguments.get(arguments.size() - 1).add(new Value(value, due));
        }
        return this;
    }

    void check() {
        before = Answers.of(maker);
        checkFrom(0, new int[arguments.size()], ofTheState, 0);
    }

    /** Numbers at the ends of all ints come one at a time, which keeps the ways few. */
    private void checkFrom(int k, int[] chosen, Due due, int ends) {
        if (k == chosen.length) {
            checkOne(chosen.clone(), due);
            return;
        }
        for (Value value : arguments.get(k)) {
            boolean end = value.value() == Integer.MIN_VALUE || value.value() == Integer.MAX_VALUE;
            if (!end || ends == 0) {
                chosen[k] = value.value();
                checkFrom(k + 1, chosen, due.orEarlier(value.due()), end ? 1 : ends);
            }
        }
    }

    private void checkOne(int[] chosen, Due due) {
        String shown = name + Arrays.toString(chosen);
        Class<?> thrown = thrownBy(maker.make(), chosen);
        Check.holds(shown + " threw " + thrown + ", due is " + due + ": this", thrown == due.thrown);
        if (thrown != null) {
            List<String> behind = Answers.of(() -> {
                IceHarbour x = maker.make();
                thrownBy(x, chosen);
                return x;
            });
            Answers.areAlike("behind the refused " + shown, behind, before);
        }
    }

    private Class<?> thrownBy(IceHarbour x, int[] chosen) {
        try {
            call.on(x, chosen);
            return null;
        } catch (RuntimeException e) {
            // The class itself: those that the machine throws are below the ones that are due.
            return e.getClass();
        }
    }
}
