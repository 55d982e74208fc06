import java.math.BigInteger;
import java.util.ArrayList;
import java.util.List;

/**
 * All that an object tells, now and on the days to come, so that two objects can be compared. A maker makes as many
 * like objects as it takes to ask all: an object is used for at most 512 calls.
 */
final class Answers {
    interface Maker {
        IceHarbour make();
    }

    interface Deed {
        void on(IceHarbour x);
    }

    private interface Question {
        Object ask(IceHarbour x);
    }

    private interface OfOne {
        Object ask(IceHarbour x, int k);
    }

    private interface OfTwo {
        Object ask(IceHarbour x, int k, int what);
    }

    private record Asked(String call, Question question) {
    }

    // The rest of the 512 is left for what makes the object.
    private static final int CALLS_AN_OBJECT = 250;
    private static final int TABLE = 40;

    private final List<Asked> questions = new ArrayList<>();

    private Answers() {
    }

    /** What makes up the checksum, in its order. */
    private static List<Asked> ofTheDigest(IceHarbour x) {
        Answers all = new Answers();
        int harbours = x.count(1);
        all.row("count", 10, (y, what) -> y.count(what));
        all.row("warm", TABLE, (y, day) -> warm(y, day));
        all.grid("harbour", harbours, 8, (y, k, what) -> y.harbour(k, what));
        all.grid("leg", harbours - 1, 4, (y, k, what) -> y.leg(k, what));
        for (int k = 0; k < x.count(2); k++) {
            int merchant = k;
            all.row("merchant " + k, 6, (y, what) -> y.merchant(merchant, what));
            all.grid("stock " + k, harbours, 4, (y, harbour, good) -> y.stock(merchant, harbour, good));
        }
        all.grid("boat", x.count(3), 12, (y, k, what) -> y.boat(k, what));
        all.grid("debt", x.count(6), 7, (y, k, what) -> y.debt(k, what));
        return all.questions;
    }

    private static List<Asked> lookingAhead(IceHarbour x) {
        Answers all = new Answers();
        int harbours = x.count(1);
        int boats = x.count(3);
        all.row("opens", harbours - 1, (y, k) -> y.opens(k));
        all.row("arrives", boats, (y, k) -> y.arrives(k));
        all.grid("latest", harbours, harbours, (y, k, to) -> y.latest(k, to));
        all.grid("advise", boats, 2, (y, k, which) -> y.advise(k, which == 0 ? 1 : 25));
        all.row("mean", 1, (y, k) -> y.mean());
        all.row("digest", 1, (y, k) -> y.digest());
        return all.questions;
    }

    private static int warm(IceHarbour x, int day) {
        int warm = x.setWarm(day, 0);
        x.setWarm(day, warm);
        return warm;
    }

    private void row(String call, int count, OfOne question) {
        for (int k = 0; k < count; k++) {
            int one = k;
            questions.add(new Asked(call + " " + k, y -> question.ask(y, one)));
        }
    }

    private void grid(String call, int rows, int columns, OfTwo question) {
        for (int k = 0; k < rows; k++) {
            int one = k;
            row(call + " " + k, columns, (y, other) -> question.ask(y, one, other));
        }
    }

    private static List<Object> ask(Maker maker, List<Asked> questions) {
        List<Object> answers = new ArrayList<>();
        IceHarbour x = null;
        for (Asked asked : questions) {
            if (answers.size() % CALLS_AN_OBJECT == 0) {
                x = maker.make();
            }
            answers.add(asked.question().ask(x));
        }
        return answers;
    }

    static List<String> of(Maker maker) {
        List<Asked> questions = new ArrayList<>(ofTheDigest(maker.make()));
        questions.addAll(lookingAhead(maker.make()));
        List<Object> told = ask(maker, questions);
        List<String> answers = new ArrayList<>();
        for (int k = 0; k < told.size(); k++) {
            answers.add(questions.get(k).call() + ": " + told.get(k));
        }
        IceHarbour later = maker.make();
        for (int day = 0; day < TABLE; day++) {
            answers.add("sunk on day " + day + " from now: " + later.pass(1));
            answers.add("digest behind it: " + later.digest());
        }
        return answers;
    }

    /** The checksum as the document has it, made of what the other calls tell, without any wrap-around. */
    static BigInteger wholeDigest(Maker maker) {
        BigInteger d = BigInteger.valueOf(661);
        for (Object x : ask(maker, ofTheDigest(maker.make()))) {
            d = d.multiply(BigInteger.valueOf(31)).add(BigInteger.valueOf((Integer) x));
        }
        return d;
    }

    static void digestIsDue(String what, Maker maker) {
        Check.due("digest(), " + what, maker.make().digest(), wholeDigest(maker).longValue());
    }

    static void areAlike(String what, List<String> got, List<String> due) {
        for (int k = 0; k < Math.min(got.size(), due.size()); k++) {
            if (!got.get(k).equals(due.get(k))) {
                Check.holds(what + ": it tells " + got.get(k) + ", due is " + due.get(k) + ": this", false);
                return;
            }
        }
        Check.due(what + ": how much it tells", got.size(), due.size());
    }

    /** What the document says of the calls that look: nothing is changed. */
    static void stay(String what, Maker maker, Deed deed) {
        List<String> behind = of(() -> {
            IceHarbour x = maker.make();
            deed.on(x);
            return x;
        });
        areAlike("behind " + what, behind, of(maker));
    }
}
