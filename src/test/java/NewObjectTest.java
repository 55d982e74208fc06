/** Promise 1. */
public final class NewObjectTest {
    public static void main(String[] args) {
        IceHarbour x = new IceHarbour();
        for (int what = 0; what <= 9; what++) {
            Check.due("count(" + what + ") of a new object", x.count(what), 0);
        }
        for (int day = 0; day < 40; day++) {
            Check.due("setWarm(" + day + ", 4)", x.setWarm(day, 4), 4);
        }
        Check.due("mean()", x.mean(), 0.0);
        Check.due("digest()", x.digest(), digestOfNothing());
        Check.due("digest() of another one", new IceHarbour().digest(), digestOfNothing());
        objectsAreApart();
        Check.end();
    }

    private static long digestOfNothing() {
        long d = 661;
        for (int what = 0; what < 10; what++) {
            d = d * 31;
        }
        for (int day = 0; day < 40; day++) {
            d = d * 31 + 4;
        }
        return d;
    }

    private static void objectsAreApart() {
        IceHarbour one = new IceHarbour();
        IceHarbour other = new IceHarbour();
        one.setWarm(0, -9);
        one.addHarbour(1, 1);
        one.addMerchant(7);
        one.pass(3);
        Check.due("digest() of the other one", other.digest(), digestOfNothing());
    }
}
