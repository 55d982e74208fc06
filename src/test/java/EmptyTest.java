/** No harbour, leg, merchant, boat or debt; no goods, coins or berths. What is refused then is in RefusedTest too. */
public final class EmptyTest {
    public static void main(String[] args) {
        noHarbour();
        merchantsWithoutHarbours();
        oneHarbourAlone();
        noBoatSinksInOneHarbourAlone();
        noMerchant();
        noBoat();
        noBoatThatFloats();
        noDebt();
        noGoodsAtFirst();
        noGoodsToSellOrLend();
        noGoodsToLoad();
        noCoinsToMend();
        noCoinsForABerth();
        noCoinsForADebt();
        noPriceForADebt();
        noBerth();
        noBerthToAdvise();
        noIceAtFirst();
        noWay();
        Check.end();
    }

    /** Promise 1: "Creates a river without harbours, on the day 0". */
    private static void noHarbour() {
        IceHarbour x = new IceHarbour();
        for (int what = 0; what < 10; what++) {
            Check.due("count(" + what + ")", x.count(what), 0);
        }
        Check.due("mean()", x.mean(), 0.0);
        Answers.digestIsDue("of a new object", IceHarbour::new);
        Check.due("none sinks", x.pass(200), 0);
        Check.due("the day", x.count(0), 200);
        Check.due("no leg is open", x.count(9), 0);
        Check.due("the first harbour", x.addHarbour(1, 0), 0);
    }

    private static void merchantsWithoutHarbours() {
        IceHarbour x = new IceHarbour();
        x.addMerchant(7);
        int[] due = {7, 0, 0, 0, 0, 0};
        for (int what = 0; what < 6; what++) {
            Check.due("merchant(0, " + what + ")", x.merchant(0, what), due[what]);
        }
        Check.due("coins of all", x.count(8), 7);
        Answers.digestIsDue("of merchants without harbours", () -> {
            IceHarbour y = new IceHarbour();
            y.addMerchant(7);
            return y;
        });
    }

    private static IceHarbour alone() {
        IceHarbour x = new IceHarbour();
        x.addHarbour(9, 1);
        x.addMerchant(3);
        x.build(0, 0, 1);
        Rivers.warm(x, 0, 39, -9);
        return x;
    }

    /** "0 with one harbour alone", and no leg. */
    private static void oneHarbourAlone() {
        IceHarbour x = alone();
        x.pass(30);
        Check.due("ice in it", x.harbour(0, 3), 0);
        Check.due("no leg is open", x.count(9), 0);
        Check.due("sent to itself", x.send(0, 0), 0);
        Check.due("it is there", x.arrives(0), 0);
        Check.due("latest(0, 0)", x.latest(0, 0), 60);
        Check.due("advise(0, 120)", x.advise(0, 120), 0);
        Answers.digestIsDue("with one harbour alone", EmptyTest::alone);
        x.addHarbour(1, 0);
        Check.due("ice of the leg that is new", x.leg(0, 1), 0);
        x.pass(1);
        Check.due("ice a day later", x.harbour(0, 3), 9);
    }

    private static void noBoatSinksInOneHarbourAlone() {
        IceHarbour x = alone();
        Check.due("none sinks in 200 days of frost", x.pass(200), 0);
        Check.due("its hull", x.boat(0, 1), 20);
    }

    private static void noMerchant() {
        IceHarbour x = Rivers.three();
        Check.due("merchants", x.count(2), 0);
        Check.due("coins of all", x.count(8), 0);
        Check.due("a day without them", x.pass(1), 0);
        Answers.digestIsDue("without merchants", Rivers::three);
    }

    /** Promise 27: "0 if there are none". */
    private static void noBoat() {
        IceHarbour x = Rivers.three();
        Check.due("boats", x.count(3) + x.count(4) + x.count(5), 0);
        Check.due("boats there", x.harbour(0, 2) + x.harbour(1, 2) + x.harbour(2, 2), 0);
        Check.due("berths that are taken", x.harbour(0, 1) + x.harbour(2, 1), 0);
        Check.due("boats on legs", x.leg(0, 3) + x.leg(1, 3), 0);
        Rivers.warm(x, 0, 39, -9);
        Check.due("none sinks", x.pass(60), 0);
        Check.due("mean()", x.mean(), 0.0);
    }

    /** Two boats in thick ice, both sunk: "all boats that are not sunk; 0 if there are none". */
    private static void noBoatThatFloats() {
        IceHarbour x = Rivers.line(2, 1, 1);
        Rivers.warm(x, 0, 39, -9);
        x.addMerchant(0);
        x.build(0, 0, 1);
        x.build(0, 1, 1);
        Check.due("both sink", x.pass(22), 2);
        Check.due("mean()", x.mean(), 0.0);
        Check.due("boats of the merchant", x.merchant(0, 1), 0);
        Check.due("boats", x.count(3), 2);
        Check.due("those that are sunk", x.count(4), 2);
        Check.due("boats there", x.harbour(0, 2) + x.harbour(1, 2), 0);
        Check.due("arrives(0), in its goal when it sank", x.arrives(0), -1);
        Check.due("advise(0, 1)", x.advise(0, 1), -1);
        Check.due("advise(1, 120)", x.advise(1, 120), -1);
        Check.due("no more sink", x.pass(200), 0);
        Check.due("a sunk hull stays", x.boat(0, 1), 0);
    }

    private static void noDebt() {
        IceHarbour x = Rivers.three();
        x.addMerchant(5);
        Check.due("debts", x.count(6), 0);
        Check.due("those that are open", x.count(7), 0);
        Check.due("open ones of the merchant", x.merchant(0, 2), 0);
        Check.due("broken ones of the merchant", x.merchant(0, 3), 0);
        x.pass(200);
        Check.due("his coins behind many days", x.merchant(0, 0), 5);
    }

    /** "goods of each kind at each harbour (0, at first)". */
    private static void noGoodsAtFirst() {
        IceHarbour x = Rivers.three();
        x.addMerchant(5);
        for (int k = 0; k < 12; k++) {
            Check.due("stock(0, " + k / 4 + ", " + k % 4 + ")", x.stock(0, k / 4, k % 4), 0);
        }
        x.build(0, 0, 60);
        for (int what = 7; what < 12; what++) {
            Check.due("boat(0, " + what + ")", x.boat(0, what), 0);
        }
        Check.due("goods at harbours", x.merchant(0, 4), 0);
        Check.due("goods on boats", x.merchant(0, 5), 0);
    }

    private static void noGoodsToSellOrLend() {
        IceHarbour x = Rivers.three();
        x.addMerchant(5);
        x.addMerchant(5);
        x.bring(1, 0, 0, 5);
        x.bring(0, 0, 1, 5);
        x.bring(0, 1, 0, 5);
        Check.badState("sells none", x, () -> x.sell(0, 0, 0, 1));
        Check.badState("lends none", x, () -> x.lend(0, 1, 0, 0, 1, 0));
    }

    private static void noGoodsToLoad() {
        IceHarbour x = Rivers.three();
        x.addMerchant(5);
        x.build(0, 0, 60);
        x.bring(0, 0, 1, 5);
        x.bring(0, 1, 0, 5);
        Check.badState("loads none", x, () -> x.load(0, 0, 1));
        Check.badState("unloads none", x, () -> x.load(0, 1, -1));
        Check.due("loads all", x.load(0, 1, 5), 5);
        Check.badState("loads none of what is on it", x, () -> x.load(0, 1, 1));
        Check.due("unloads all", x.load(0, 1, -5), 0);
        Check.badState("unloads none of what was on it", x, () -> x.load(0, 1, -1));
    }

    private static void noCoinsToMend() {
        IceHarbour x = Rivers.line(2, 1, 1);
        Rivers.warm(x, 0, 39, -9);
        x.addMerchant(0);
        x.build(0, 0, 1);
        x.pass(4);
        Check.due("mend(0)", x.mend(0), 18);
        Check.due("his coins", x.merchant(0, 0), 0);
    }

    /** Step 2 of a day: "without one the boat lies at anchor"; with the last one it does not. */
    private static void noCoinsForABerth() {
        IceHarbour x = Rivers.line(2, 1, 1);
        x.addMerchant(1);
        x.addMerchant(0);
        x.build(0, 0, 1);
        x.build(1, 1, 1);
        x.berth(0, true);
        Check.due("a berth without a coin, till the day", x.berth(1, true), 0);
        x.pass(1);
        Check.due("the last coin is paid", x.boat(0, 3), 1);
        Check.due("it is gone", x.merchant(0, 0), 0);
        Check.due("without one at anchor", x.boat(1, 3), 0);
        Check.due("no coin less than 0", x.merchant(1, 0), 0);
        x.pass(1);
        Check.due("at anchor a day later", x.boat(0, 3), 0);
        Check.due("no coin less than 0 of him", x.merchant(0, 0), 0);
        Check.due("no berth is taken", x.harbour(0, 1) + x.harbour(1, 1), 0);
    }

    private static IceHarbour owing(int coins, int price) {
        IceHarbour x = Rivers.three();
        x.addMerchant(0);
        x.addMerchant(coins);
        x.bring(0, 0, 0, 1);
        x.lend(0, 1, 0, 0, 1, 0);
        x.sell(1, 0, 0, 1);
        x.setPrice(0, 0, price);
        x.pass(1);
        return x;
    }

    /** Step 4 of a day: "otherwise it is broken", without a coin and without a good. */
    private static void noCoinsForADebt() {
        Check.due("a coin for a debt of one", owing(1, 1).debt(0, 6), 1);
        Check.due("is paid to the lender", owing(1, 1).merchant(0, 0), 1);
        Check.due("none for it", owing(0, 1).debt(0, 6), 2);
        Check.due("none is paid", owing(0, 1).merchant(0, 0), 0);
        Check.due("none is owed", owing(0, 1).merchant(1, 0), 0);
    }

    private static void noPriceForADebt() {
        Check.due("0 coins are as many as it costs", owing(0, 0).debt(0, 6), 1);
        Check.due("none is paid", owing(0, 0).merchant(0, 0), 0);
        Check.due("none of many", owing(9, 0).merchant(1, 0), 9);
    }

    /** Promise 15, in a harbour without berths. */
    private static void noBerth() {
        IceHarbour x = Rivers.line(2, 1, 0);
        x.addMerchant(5);
        x.build(0, 0, 1);
        Check.badState("into a berth", x, () -> x.berth(0, true));
        Check.due("at anchor", x.berth(0, false), 0);
        Check.due("berths", x.harbour(0, 0), 0);
        x.pass(1);
        Check.due("nothing is paid", x.merchant(0, 0), 5);
    }

    private static void noBerthToAdvise() {
        IceHarbour x = Rivers.line(3, 1, 0);
        x.addMerchant(100);
        x.build(0, 2, 1);
        Check.due("all are alike", x.advise(0, 120), 0);
        Rivers.warm(x, 0, 39, -9);
        Check.due("all are alike in the ice", x.advise(0, 21), 0);
        Check.due("till it sinks wherever it is sent", x.advise(0, 22), -1);
    }

    /** "It has ice, 0 to 60 (0, at first)", also a leg that is added in the frost. */
    private static void noIceAtFirst() {
        IceHarbour x = Rivers.three();
        Check.due("ice of the leg 0", x.leg(0, 1), 0);
        Check.due("it is open", x.leg(0, 2), 1);
        Check.due("opens(0)", x.opens(0), 0);
        Rivers.warm(x, 0, 39, -9);
        x.pass(5);
        x.addHarbour(1, 0);
        Check.due("ice of the leg 2", x.leg(2, 1), 0);
        Check.due("opens(2)", x.opens(2), 0);
        Check.due("open legs", x.count(9), 1);
    }

    /** From a harbour to itself, in thick ice. */
    private static void noWay() {
        IceHarbour x = Rivers.line(2, 1, 1);
        Rivers.warm(x, 0, 39, -9);
        x.addMerchant(100);
        x.build(0, 1, 1);
        x.berth(0, true);
        x.pass(40);
        Check.due("send", x.send(0, 1), 0);
        Check.due("arrives", x.arrives(0), 0);
        Check.due("latest", x.latest(1, 1), 60);
        x.pass(1);
        Check.due("it stays in its berth", x.boat(0, 3), 1);
    }
}
