/** Promises 23 to 28: opens, arrives, latest, advise, mean, digest. */
public final class LookAheadTest {
    public static void main(String[] args) {
        opens();
        opensAtMost120();
        arrives();
        arrivesAtMost200();
        arrivesUnlessItSinks();
        arrivesWithCoinsOfOthers();
        arrivesWithGoodsAndOldDebts();
        arrivesFromTheSecondLeg();
        latest();
        latestOverSeveralLegs();
        latestIsNoMatterOfHulls();
        advise();
        adviseGoesIntoBerths();
        adviseWaitsForABerth();
        adviseLooksAgainEachDay();
        adviseFromALeg();
        adviseStaysInItsBerth();
        mean();
        digest();
        lookingChangesNothing();
        Check.end();
    }

    /** As many harbours in a line, with thick ice on all legs, on day 40; no warmth and no frost from then on. */
    private static IceHarbour frozen(int harbours, int legDays, int berths) {
        IceHarbour x = Rivers.line(harbours, legDays, berths);
        Rivers.warm(x, 0, 39, -9);
        x.pass(40);
        Rivers.warm(x, 0, 39, 0);
        return x;
    }

    private static void opens() {
        IceHarbour x = Rivers.line(2, 1, 0);
        Rivers.warm(x, 0, 2, -4);
        Rivers.warm(x, 3, 39, 0);
        x.setWarm(5, 1);
        Check.due("opens(0) now", x.opens(0), 0);
        x.pass(3);
        x.addHarbour(1, 0);
        long before = x.digest();
        Check.due("opens(0)", x.opens(0), 3);
        Check.due("opens(1)", x.opens(1), 0);
        Check.due("nothing is changed", x.digest(), before);
        x.pass(2);
        Check.due("opens(0) a day ahead", x.opens(0), 1);
        x.pass(1);
        Check.due("opens(0) with ice of 10", x.opens(0), 0);
    }

    private static void opensAtMost120() {
        IceHarbour x = frozen(2, 1, 0);
        Check.due("opens(0) without warmth", x.opens(0), -1);
        x.setWarm(39, 9);
        Check.due("60 less 3 * 18 behind 120 days", x.opens(0), 120);
        x.setWarm(39, 8);
        Check.due("60 less 3 * 16 is too much", x.opens(0), -1);
        x.setWarm(39, 0);
        x.setWarm(0, 8);
        Check.due("60 less 4 * 16 behind 121 days", x.opens(0), -1);
        x.setWarm(0, 9);
        Check.due("60 less 3 * 18 behind 81 days", x.opens(0), 81);
    }

    private static void arrives() {
        IceHarbour x = Rivers.three();
        Rivers.warm(x, 0, 39, 0);
        x.addMerchant(10);
        x.build(0, 0, 1);
        Check.due("arrives(0) where it is", x.arrives(0), 0);
        x.berth(0, true);
        Check.due("in a berth", x.arrives(0), 0);
        x.send(0, 2);
        long before = x.digest();
        Check.due("arrives(0)", x.arrives(0), 5);
        Check.due("nothing is changed", x.digest(), before);
        x.pass(1);
        Check.due("from a leg", x.arrives(0), 4);
        x.send(0, 1);
        Check.due("to the end of the leg", x.arrives(0), 2);
        x.send(0, 0);
        Check.due("back from the leg", x.arrives(0), 8);
        x.setWarm(4, -9);
        x.setWarm(5, -2);
        x.setWarm(9, 1);
        Check.due("held up by ice of 11 on the days 5 to 8", x.arrives(0), 12);
        x.pass(2);
        Check.due("boat(0, 4)", x.boat(0, 4), 1);
        x.send(0, 1);
        Check.due("it is there now", x.arrives(0), 0);
    }

    private static void arrivesAtMost200() {
        IceHarbour x = frozen(2, 1, 1);
        x.setWarm(39, 5);
        x.addMerchant(5000);
        x.build(0, 0, 1);
        x.berth(0, true);
        x.send(0, 1);
        Check.due("60 less 5 * 10 behind 200 days", x.arrives(0), 200);
        IceHarbour y = frozen(2, 2, 1);
        y.setWarm(39, 5);
        y.addMerchant(5000);
        y.build(0, 0, 1);
        y.berth(0, true);
        y.send(0, 1);
        Check.due("a day more", y.arrives(0), -1);
        y.pass(1);
        Check.due("a day later", y.arrives(0), 200);
    }

    private static void arrivesUnlessItSinks() {
        IceHarbour x = frozen(2, 1, 1);
        Rivers.warm(x, 17, 39, 9);
        x.addMerchant(0);
        x.build(0, 0, 1);
        x.build(0, 0, 1);
        x.send(0, 1);
        Check.due("60 less 3 * 18 on the day 59, a point of hull is left", x.arrives(0), 20);
        x.setWarm(17, 0);
        Check.due("it sinks at last", x.arrives(0), -1);
        Check.due("another one is there, and sinks later", x.arrives(1), 0);
        x.pass(30);
        Check.due("they are sunk", x.count(4), 2);
        Check.due("arrives of a sunk one", x.arrives(0), -1);
        Check.due("arrives of one that sank in its goal", x.arrives(1), -1);
    }

    /** The owner has no coins for the berth but those that a debtor pays him on the first day. */
    private static void arrivesWithCoinsOfOthers() {
        IceHarbour x = frozen(2, 1, 1);
        Rivers.warm(x, 30, 39, 9);
        x.addMerchant(1);
        x.addMerchant(50);
        x.build(0, 0, 1);
        x.berth(0, true);
        x.send(0, 1);
        Check.due("without debts it sinks", x.arrives(0), -1);
        x.bring(0, 0, 0, 1);
        x.lend(0, 1, 0, 0, 1, 40);
        x.sell(1, 0, 0, 1);
        x.setPrice(0, 0, 50);
        Check.due("with one it comes through", x.arrives(0), 33);
        x.build(0, 1, 1);
        x.berth(1, true);
        Check.due("another berth takes half of the coins", x.arrives(0), 33);
        x.setPrice(0, 0, 20);
        Check.due("20 are enough for both", x.arrives(0), 33);
        x.setPrice(0, 0, 5);
        Check.due("5 are not", x.arrives(0), -1);
    }

    /** The owner can pay for the berth only if his debts do not take his coins. */
    private static void arrivesWithGoodsAndOldDebts() {
        IceHarbour x = frozen(2, 1, 1);
        Rivers.warm(x, 30, 39, 9);
        x.addMerchant(36);
        x.addMerchant(0);
        x.build(0, 0, 1);
        x.berth(0, true);
        x.send(0, 1);
        x.setPrice(0, 0, 30);
        x.bring(1, 0, 0, 1);
        x.lend(1, 0, 0, 0, 1, 45);
        Check.due("the debt is paid with goods", x.arrives(0), 33);
        x.load(0, 0, 1);
        Check.due("goods on the boat are none at the harbour", x.arrives(0), -1);
        x.load(0, 0, -1);
        x.repay(0, 0);
        Check.due("a paid one takes nothing", x.arrives(0), 33);
        x.bring(1, 0, 0, 1);
        x.lend(1, 0, 0, 0, 1, 40);
        x.setPrice(0, 0, 0);
        x.sell(0, 0, 0, 1);
        x.setPrice(0, 0, 50);
        x.pass(1);
        Check.due("it is broken", x.debt(1, 6), 2);
        x.setPrice(0, 0, 30);
        Check.due("a broken one takes nothing", x.arrives(0), 32);
    }

    private static void arrivesFromTheSecondLeg() {
        IceHarbour x = Rivers.line(2, 3, 0);
        Rivers.warm(x, 0, 1, -9);
        Rivers.warm(x, 2, 39, 0);
        x.pass(2);
        x.addHarbour(3, 0);
        x.addMerchant(0);
        x.build(0, 1, 1);
        x.send(0, 2);
        x.pass(1);
        Check.due("the leg 0 is closed", x.leg(0, 2), 0);
        Check.due("the leg 1 is not", x.arrives(0), 2);
    }

    private static void latest() {
        IceHarbour x = Rivers.line(2, 3, 0);
        Rivers.warm(x, 0, 39, 0);
        Rivers.warm(x, 20, 21, -9);
        long before = x.digest();
        Check.due("down, the last day on it is the day 20", x.latest(0, 1), 18);
        Check.due("up", x.latest(1, 0), 15);
        Check.due("nowhere", x.latest(0, 0), 60);
        Check.due("nothing is changed", x.digest(), before);
        x.pass(16);
        Check.due("down two days before", x.latest(0, 1), 2);
        Check.due("up too late", x.latest(1, 0), -1);
        x.pass(2);
        Check.due("down at once", x.latest(0, 1), 0);
        x.pass(1);
        Check.due("down too late", x.latest(0, 1), -1);
        x.setWarm(22, 9);
        x.setWarm(23, 9);
        Check.due("it is open again", x.latest(0, 1), 60);
        Check.due("up on each day when it is open", x.latest(1, 0), 60);
        IceHarbour thick = frozen(2, 1, 0);
        Check.due("nowhere in thick ice", thick.latest(1, 1), 60);
        Check.due("never", thick.latest(0, 1), -1);
        thick.setWarm(21, 9);
        thick.setWarm(22, 9);
        thick.setWarm(23, 9);
        Check.due("from 24 days on", thick.latest(0, 1), 60);
        thick.setWarm(24, -9);
        Check.due("on one day alone", thick.latest(0, 1), 23);
    }

    private static void latestOverSeveralLegs() {
        IceHarbour x = Rivers.three();
        Rivers.warm(x, 0, 39, 0);
        Rivers.warm(x, 30, 39, -9);
        Check.due("each leg is open with ice of 9", x.latest(0, 2), 26);
        Check.due("up", x.latest(2, 0), 21);
        IceHarbour y = frozen(2, 3, 0);
        y.addHarbour(2, 0);
        Rivers.warm(y, 27, 29, 9);
        Rivers.warm(y, 35, 39, -9);
        Check.due("down: the old leg is open from day 69 to 74, the new one till 75", y.latest(0, 2), 31);
        Check.due("up: six days on the old leg", y.latest(2, 0), 25);
        y.setWarm(24, -9);
        y.setWarm(25, -1);
        Check.due("up: the new leg has ice of 10 before", y.latest(2, 0), 25);
        y.setWarm(25, -2);
        Check.due("up: it has ice of 11", y.latest(2, 0), -1);
        Check.due("down: this is of no matter", y.latest(0, 2), 31);
        IceHarbour z = Rivers.line(8, 9, 0);
        Check.due("126 days up", z.latest(7, 0), 60);
        Check.due("63 days down", z.latest(0, 7), 60);
        z.setWarm(5, -9);
        z.setWarm(6, -9);
        Check.due("frost each forty days", z.latest(7, 0), -1);
    }

    private static void latestIsNoMatterOfHulls() {
        IceHarbour x = Rivers.line(2, 1, 0);
        Rivers.warm(x, 0, 39, 0);
        Rivers.warm(x, 0, 5, -9);
        Rivers.warm(x, 34, 39, 9);
        x.addMerchant(0);
        x.build(0, 0, 1);
        Check.due("40 days of waiting, in which a boat sinks", x.latest(0, 1), 40);
        x.pass(30);
        Check.due("it is sunk", x.boat(0, 3), 3);
        Check.due("of the next round, the day 80", x.latest(0, 1), 50);
    }

    private static void advise() {
        IceHarbour x = Rivers.line(4, 1, 0);
        x.addMerchant(0);
        x.build(0, 2, 1);
        Check.due("all are alike: the smallest number", x.advise(0, 10), 0);
        Check.due("its goal is no matter", x.boat(0, 5), 2);
        Rivers.warm(x, 0, 39, -9);
        Check.due("all are alike in the ice too", x.advise(0, 10), 0);
        x.pass(12);
        long before = x.digest();
        Check.due("hull of 10 bears 9 days", x.advise(0, 9), 0);
        Check.due("but not 10", x.advise(0, 10), -1);
        Check.due("nor 120", x.advise(0, 120), -1);
        Check.due("nothing is changed", x.digest(), before);
        x.addHarbour(1, 0);
        x.build(0, 3, 1);
        Check.due("the harbours 3 and 4 have no ice yet", x.advise(1, 1), 0);
        Check.due("of two days in new ice, three in old", x.advise(1, 3), 0);
        x.pass(40);
        Check.due("a sunk one", x.advise(0, 5), -1);
    }

    /** The harbour 2 has the only berths; the boat is there in time, or it is not. */
    private static void adviseGoesIntoBerths() {
        IceHarbour x = new IceHarbour();
        x.addHarbour(1, 0);
        x.addHarbour(1, 0);
        x.addHarbour(1, 1);
        x.addHarbour(1, 0);
        Rivers.warm(x, 0, 39, -9);
        Rivers.warm(x, 0, 1, -4);
        x.addMerchant(100);
        x.addMerchant(0);
        x.build(0, 0, 1);
        x.build(1, 0, 1);
        x.build(0, 2, 1);
        Check.due("two days down to the berth", x.advise(0, 30), 2);
        Check.due("no coin for the berth: it goes into it each day for nothing", x.advise(1, 30), -1);
        Check.due("looked at now: it lies there", x.advise(2, 30), 2);
        x.berth(2, true);
        Check.due("it is full", x.advise(0, 10), 0);
        Check.due("it stays in it", x.advise(2, 30), 2);
        x.send(2, 3);
        Check.due("it is left in time", x.advise(0, 30), 2);
        x.berth(2, false);
        Check.due("one at anchor leaves it free", x.advise(0, 30), 2);
    }

    private static void adviseWaitsForABerth() {
        IceHarbour x = frozen(2, 1, 1);
        Rivers.warm(x, 0, 39, -9);
        x.addMerchant(4);
        x.addMerchant(100);
        x.build(0, 1, 1);
        x.build(1, 1, 1);
        x.build(1, 0, 1);
        x.berth(0, true);
        Check.due("the berth is free behind five days", x.advise(1, 100), 1);
        Check.due("behind five days are they alike", x.advise(1, 5), 0);
        Check.due("a day later they are not", x.advise(1, 6), 1);
        Check.due("the boat 2 lies where a berth is", x.advise(2, 100), 0);
        Check.due("with one day", x.advise(2, 1), 0);
        IceHarbour y = frozen(2, 1, 1);
        y.addMerchant(1);
        y.build(0, 1, 1);
        Check.due("it goes into the berth before the first day", y.advise(0, 1), 1);
        y.build(0, 0, 1);
        y.berth(0, true);
        y.berth(1, true);
        Check.due("the boat 0 has the coin", y.advise(1, 1), 0);
        Check.due("and is whole where it is", y.advise(0, 1), 0);
    }

    /** Without coins it lies at anchor on each day, and gets the coins of a debt on a later one. */
    private static void adviseLooksAgainEachDay() {
        IceHarbour x = frozen(3, 1, 0);
        x.addHarbour(1, 1);
        x.addMerchant(0);
        x.addMerchant(50);
        x.build(0, 3, 1);
        Rivers.warm(x, 0, 39, -9);
        x.bring(0, 0, 0, 1);
        x.lend(0, 1, 0, 0, 1, 49);
        x.sell(1, 0, 0, 1);
        x.setPrice(0, 0, 50);
        Check.due("the berth is paid from the day 50 on", x.advise(0, 40), 3);
        Check.due("50 coins last till the day 99", x.advise(0, 60 + 11), 3);
        Check.due("then the ice bites again", x.advise(0, 72), -1);
    }

    /** It goes on to the end of its leg first; from there the berth below is in time, the one above is not. */
    private static void adviseFromALeg() {
        IceHarbour x = new IceHarbour();
        x.addHarbour(1, 1);
        x.addHarbour(2, 0);
        x.addHarbour(1, 1);
        Rivers.warm(x, 0, 2, 0);
        Rivers.warm(x, 3, 39, -9);
        x.addMerchant(100);
        x.build(0, 0, 1);
        x.build(0, 2, 1);
        x.send(0, 1);
        x.pass(1);
        Check.due("it is on the leg", x.boat(0, 3), 2);
        Check.due("before the ice bites", x.advise(0, 4), 0);
        Check.due("when it does", x.advise(0, 5), 2);
        Check.due("it bites for 19 days elsewhere", x.advise(0, 23), 2);
        x.berth(1, true);
        Check.due("the berth below is taken", x.advise(0, 5), 0);
        Check.due("it sinks wherever it is sent", x.advise(0, 24), -1);
        x.berth(1, false);
        Check.due("the berth below is free again", x.advise(0, 24), 2);
    }

    /** "It goes into a berth in its goal": not into one on its way; it leaves none but by setting out. */
    private static void adviseStaysInItsBerth() {
        IceHarbour x = frozen(2, 1, 1);
        x.addMerchant(100);
        x.build(0, 1, 1);
        Check.due("sent to 0, it lies at anchor beside a free berth", x.advise(0, 1), 1);
        x.berth(0, true);
        Check.due("sent to 0, it waits in its berth", x.advise(0, 1), 0);
        Check.due("it is still there", x.boat(0, 3), 1);
    }

    private static void mean() {
        IceHarbour x = Rivers.line(2, 1, 2);
        Check.due("mean() without boats", x.mean(), 0.0);
        Rivers.warm(x, 0, 39, -9);
        x.addMerchant(60);
        x.build(0, 0, 1);
        x.build(0, 1, 1);
        x.build(0, 1, 1);
        Check.due("mean() of whole ones", x.mean(), 20.0);
        x.berth(1, true);
        x.pass(4);
        Check.due("mean() of 18, 20, 18", x.mean(), 56.0 / 3.0);
        x.berth(0, true);
        x.pass(17);
        Check.due("mean() of 18, 20, 1", x.mean(), 13.0);
        x.pass(1);
        Check.due("mean() of 18, 20", x.mean(), 19.0);
        x.pass(100);
        Check.due("mean() of none", x.mean(), 0.0);
    }

    private static void digest() {
        Answers.digestIsDue("of three harbours", Rivers::three);
        for (int days = 0; days <= 60; days++) {
            int past = days;
            Answers.digestIsDue("on day " + days, () -> traded(past));
        }
    }

    private static IceHarbour traded(int days) {
        IceHarbour x = Rivers.three();
        Rivers.warm(x, 3, 20, -6);
        x.addMerchant(50);
        x.addMerchant(70);
        x.setPrice(1, 2, 9);
        x.bring(0, 1, 2, 50);
        x.bring(1, 2, 3, 7);
        x.build(0, 1, 9);
        x.build(1, 2, 9);
        x.load(0, 2, 8);
        x.lend(0, 1, 1, 2, 12, 4);
        x.lend(0, 1, 1, 2, 10, 90);
        x.send(0, 0);
        if (days > 0) {
            x.pass(days);
        }
        return x;
    }

    /** "(nothing is changed)", of the calls that look ahead and of those that tell. */
    private static void lookingChangesNothing() {
        for (int k = 0; k < 4; k++) {
            int boat = k;
            Answers.stay("arrives(" + k + ")", Rivers::busy, x -> x.arrives(boat));
            Answers.stay("advise(" + k + ", 120)", Rivers::busy, x -> x.advise(boat, 120));
            Answers.stay("boat(" + k + ", 1)", Rivers::busy, x -> x.boat(boat, 1));
        }
        for (int k = 0; k < 9; k++) {
            int from = k / 3;
            int to = k % 3;
            Answers.stay("latest(" + from + ", " + to + ")", Rivers::busy, x -> x.latest(from, to));
        }
        Answers.stay("opens(0)", Rivers::busy, x -> x.opens(0));
        Answers.stay("opens(1)", Rivers::busy, x -> x.opens(1));
        Answers.stay("mean()", Rivers::busy, x -> x.mean());
        Answers.stay("digest()", Rivers::busy, x -> x.digest());
        Answers.stay("count(0)", Rivers::busy, x -> x.count(0));
        Answers.stay("harbour(0, 2)", Rivers::busy, x -> x.harbour(0, 2));
        Answers.stay("leg(0, 2)", Rivers::busy, x -> x.leg(0, 2));
        Answers.stay("merchant(0, 1)", Rivers::busy, x -> x.merchant(0, 1));
        Answers.stay("stock(0, 0, 0)", Rivers::busy, x -> x.stock(0, 0, 0));
        Answers.stay("debt(2, 6)", Rivers::busy, x -> x.debt(2, 6));
    }
}
