import java.math.BigInteger;

/** The day by the remainder of 40, and d in digest() as a 64-bit integer. */
public final class WrapTest {
    public static void main(String[] args) {
        lastDayOfTheTable();
        firstDayOfTheTableAgain();
        manyTimesRound();
        oneDayOfTheTableIsManyDays();
        opensBeyondTheTable();
        arrivesBeyondTheTable();
        latestBeyondTheTable();
        adviseBeyondTheTable();
        digestIsCutTo64Bits();
        digestOfNumbersBelow0();
        digestAtFirst();
        Check.end();
    }

    /** With ice that is 1 more on one day of the table, and stays as it is on all others. */
    private static IceHarbour frostOn(int day) {
        IceHarbour x = Rivers.line(2, 1, 0);
        Rivers.warm(x, 0, 39, 0);
        x.setWarm(day, -1);
        return x;
    }

    private static void expectIce(IceHarbour x, int days, int ice) {
        x.pass(days);
        Check.due("ice on day " + x.count(0), x.leg(0, 1), ice);
    }

    private static void lastDayOfTheTable() {
        IceHarbour x = frostOn(39);
        expectIce(x, 39, 0);
        expectIce(x, 1, 1);
        expectIce(x, 39, 1);
        expectIce(x, 1, 2);
        expectIce(x, 1, 2);
    }

    private static void firstDayOfTheTableAgain() {
        IceHarbour x = frostOn(0);
        expectIce(x, 1, 1);
        expectIce(x, 39, 1);
        expectIce(x, 1, 2);
        expectIce(x, 39, 2);
        expectIce(x, 1, 3);
        IceHarbour y = frostOn(1);
        expectIce(y, 40, 1);
        expectIce(y, 1, 1);
        expectIce(y, 1, 2);
    }

    /** 200 days are five times round, whichever day it is. */
    private static void manyTimesRound() {
        IceHarbour x = frostOn(7);
        for (int times = 5; times <= 60; times += 5) {
            expectIce(x, 200, times);
        }
        x.setWarm(7, 9);
        for (int k = 0; k < 400; k++) {
            x.pass(200);
        }
        Check.due("the day", x.count(0), 82400);
        x.setWarm(7, -5);
        expectIce(x, 7, 0);
        expectIce(x, 1, 5);
    }

    /** What is set for a day of the table holds on each day with its remainder, from then on. */
    private static void oneDayOfTheTableIsManyDays() {
        IceHarbour x = frostOn(20);
        expectIce(x, 21, 1);
        x.setWarm(20, -9);
        expectIce(x, 39, 1);
        expectIce(x, 1, 10);
        x.setWarm(20, 2);
        expectIce(x, 40, 6);
        expectIce(x, 40, 2);
    }

    /** On day 38 there is ice of 11; the day 41 has the warmth of the day 1. */
    private static IceHarbour beforeTheEnd() {
        IceHarbour x = Rivers.line(2, 1, 1);
        Rivers.warm(x, 0, 39, 0);
        x.setWarm(36, -2);
        x.setWarm(37, -9);
        x.pass(38);
        x.setWarm(1, 1);
        return x;
    }

    private static void opensBeyondTheTable() {
        IceHarbour x = beforeTheEnd();
        Check.due("with the warmth of the day 41", x.opens(0), 4);
        x.setWarm(1, 0);
        Check.due("never", x.opens(0), -1);
        x.setWarm(0, 1);
        Check.due("with that of the day 40", x.opens(0), 3);
        x.setWarm(39, 1);
        Check.due("with that of the day 39", x.opens(0), 2);
    }

    private static void arrivesBeyondTheTable() {
        IceHarbour x = beforeTheEnd();
        x.addMerchant(0);
        x.build(0, 0, 1);
        x.send(0, 1);
        Check.due("with the warmth of the day 41", x.arrives(0), 4);
        x.setWarm(0, -9);
        Check.due("with frost on the day 40, till the days 121 and 161 at last", x.arrives(0), -1);
        x.setWarm(1, 9);
        Check.due("with frost on the day 40 and much warmth", x.arrives(0), 4);
    }

    private static void latestBeyondTheTable() {
        IceHarbour x = beforeTheEnd();
        Check.due("till the day 75, with the frost of the day 36 on the day 76", x.latest(0, 1), 37);
        x.setWarm(2, -2);
        Check.due("on the day 41 alone", x.latest(0, 1), 3);
        x.setWarm(2, 0);
        x.setWarm(20, -2);
        Check.due("till the day 59", x.latest(0, 1), 21);
    }

    /** The leg is closed: the boat is in a berth, or the ice of the day 40 bites it if there is more than 20. */
    private static void adviseBeyondTheTable() {
        IceHarbour x = beforeTheEnd();
        x.addMerchant(100);
        x.build(0, 1, 1);
        x.setWarm(1, 0);
        x.setWarm(0, -9);
        Check.due("ice of 20 on the day 40", x.advise(0, 3), 0);
        x.setWarm(39, -1);
        Check.due("ice of 12 on the day 39", x.advise(0, 2), 0);
        Check.due("ice of 21 on the day 40", x.advise(0, 3), 1);
    }

    private static IceHarbour river() {
        IceHarbour x = Rivers.busy();
        x.setWarm(39, -9);
        return x;
    }

    /** "which wraps around as a 64-bit integer": the whole number has far more bits than 64. */
    private static void digestIsCutTo64Bits() {
        BigInteger whole = Answers.wholeDigest(WrapTest::river);
        Check.holds("the whole number has more than 64 bits", whole.bitLength() > 64);
        BigInteger cut = whole.mod(BigInteger.ONE.shiftLeft(64));
        BigInteger due = cut.testBit(63) ? cut.subtract(BigInteger.ONE.shiftLeft(64)) : cut;
        Check.holds("digest() has its last 64 bits", BigInteger.valueOf(river().digest()).equals(due));
    }

    /** Some digests are less than 0, and x may be: frost, and the harbour of a sunk boat. */
    private static void digestOfNumbersBelow0() {
        Check.due("the sunk boat is at", river().boat(0, 4), -1);
        int below = 0;
        for (int warm = -9; warm <= 9; warm++) {
            int ofTheDay = warm;
            Answers.Maker maker = () -> {
                IceHarbour x = river();
                x.setWarm(39, ofTheDay);
                return x;
            };
            Answers.digestIsDue("with " + warm + " on the last day", maker);
            below += maker.make().digest() < 0 ? 1 : 0;
        }
        Check.holds("some digests are less than 0, some are not", below > 0 && below < 19);
    }

    /** "A number d starts with 661": this, ten times 0 and forty times 4, worked out apart from the class. */
    private static void digestAtFirst() {
        Check.due("of a new object", new IceHarbour().digest(), -744990781878035115L);
    }
}
