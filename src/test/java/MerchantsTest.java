/** Promises 7 to 11: addMerchant, bring, sell, stock, merchant. */
public final class MerchantsTest {
    public static void main(String[] args) {
        addMerchant();
        bring();
        sell();
        stock();
        merchant();
        goodsOfEachOne();
        Check.end();
    }

    private static void addMerchant() {
        IceHarbour x = new IceHarbour();
        Check.due("addMerchant(5000)", x.addMerchant(5000), 0);
        for (int k = 1; k < 5; k++) {
            Check.due("addMerchant(0)", x.addMerchant(0), k);
        }
        Check.due("coins of the first", x.merchant(0, 0), 5000);
        Check.due("coins of the second", x.merchant(1, 0), 0);
    }

    private static void bring() {
        IceHarbour x = Rivers.three();
        x.addMerchant(0);
        x.addMerchant(0);
        Check.due("bring(1, 2, 3, 100)", x.bring(1, 2, 3, 100), 100);
        Check.due("bring(1, 2, 3, 1)", x.bring(1, 2, 3, 1), 101);
        Check.due("bring(1, 2, 0, 5)", x.bring(1, 2, 0, 5), 5);
        Check.due("stock(1, 2, 3)", x.stock(1, 2, 3), 101);
    }

    private static void sell() {
        IceHarbour x = Rivers.three();
        x.addMerchant(3);
        x.setPrice(1, 2, 9);
        x.bring(0, 1, 2, 10);
        x.bring(0, 0, 0, 4);
        Check.due("sell(0, 1, 2, 4)", x.sell(0, 1, 2, 4), 39);
        Check.due("what is left", x.stock(0, 1, 2), 6);
        Check.due("sell at the price 0", x.sell(0, 0, 0, 4), 39);
        Check.due("nothing is left there", x.stock(0, 0, 0), 0);
        Check.due("all of the rest", x.sell(0, 1, 2, 6), 93);
    }

    private static void stock() {
        IceHarbour x = Rivers.three();
        x.addMerchant(0);
        x.addMerchant(0);
        x.bring(0, 1, 3, 7);
        x.bring(1, 2, 0, 8);
        for (int merchant = 0; merchant < 2; merchant++) {
            for (int harbour = 0; harbour < 3; harbour++) {
                for (int good = 0; good < 4; good++) {
                    int due = merchant == 0 && harbour == 1 && good == 3 ? 7
                        : merchant == 1 && harbour == 2 && good == 0 ? 8 : 0;
                    Check.due("stock(" + merchant + ", " + harbour + ", " + good + ")",
                        x.stock(merchant, harbour, good), due);
                }
            }
        }
    }

    private static void merchant() {
        IceHarbour x = Rivers.three();
        Rivers.warm(x, 0, 39, -9);
        x.addMerchant(50);
        x.addMerchant(60);
        x.bring(0, 0, 0, 40);
        x.bring(0, 2, 1, 20);
        x.build(0, 0, 30);
        x.build(0, 2, 30);
        x.build(1, 1, 30);
        x.load(0, 0, 10);
        x.load(1, 1, 5);
        x.setPrice(0, 0, 50);
        x.lend(0, 1, 0, 0, 3, 100);
        x.lend(0, 1, 0, 0, 2, 100);
        x.lend(0, 1, 0, 0, 4, 0);
        x.sell(1, 0, 0, 9);
        x.berth(0, true);
        expect(x, 0, 50, 2, 0, 0, 21 + 15, 15);
        expect(x, 1, 60 + 9 * 50, 1, 3, 0, 0, 0);
        x.pass(1);
        expect(x, 0, 50 - 1 + 200, 2, 0, 0, 36, 15);
        expect(x, 1, 310, 1, 2, 0, 0, 0);
        x.lend(0, 1, 0, 0, 21, 1);
        x.sell(1, 0, 0, 21);
        x.lend(0, 1, 2, 1, 15, 1);
        x.setPrice(2, 1, 50);
        x.pass(1);
        expect(x, 0, 248 + 23 * 50, 2, 0, 0, 0, 15);
        expect(x, 1, 310 + 21 * 50 - 23 * 50, 1, 2, 1, 15, 0);
        x.pass(40);
        expect(x, 0, 248 + 23 * 50 - 40, 1, 0, 0, 0, 10);
        expect(x, 1, 210, 0, 2, 1, 15, 0);
    }

    /** merchant: "4 all goods at harbours, 5 all goods on boats", of three merchants with a boat each. */
    private static void goodsOfEachOne() {
        IceHarbour x = Rivers.three();
        for (int k = 0; k < 3; k++) {
            x.addMerchant(0);
            x.build(k, k, 60);
            for (int good = 0; good < 4; good++) {
                x.bring(k, k, good, 10 + k);
                x.bring(k, (k + 1) % 3, good, 1);
                x.load(k, good, k + good + 1);
            }
        }
        for (int k = 0; k < 3; k++) {
            expect(x, k, 0, 1, 0, 0, 4 * (11 + k) - (4 * k + 10), 4 * k + 10);
        }
    }

    private static void expect(IceHarbour x, int merchant, int... due) {
        for (int what = 0; what < due.length; what++) {
            Check.due("merchant(" + merchant + ", " + what + ") on day " + x.count(0),
                x.merchant(merchant, what), due[what]);
        }
    }
}
