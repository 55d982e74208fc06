/** Promises 18 to 20, lend, repay and debt, and what a day does to debts. */
public final class LendingTest {
    private static final int MOST = Integer.MAX_VALUE;

    public static void main(String[] args) {
        lend();
        repay();
        debt();
        dayTakesGoods();
        dayTakesCoins();
        dayBreaksDebt();
        dayTakesNothingEarly();
        debtsByNumbers();
        Check.end();
    }

    /** Three harbours and three merchants, the first with 100 of the good 1 at the harbour 2. */
    private static IceHarbour market() {
        IceHarbour x = Rivers.three();
        x.addMerchant(10);
        x.addMerchant(20);
        x.addMerchant(30);
        x.bring(0, 2, 1, 100);
        return x;
    }

    private static void lend() {
        IceHarbour x = market();
        Check.due("lend of 9", x.lend(0, 1, 2, 1, 9, 0), 0);
        Check.due("lend of 10", x.lend(0, 1, 2, 1, 10, 5), 1);
        Check.due("lend of 19", x.lend(0, 2, 2, 1, 19, MOST), 2);
        Check.due("9 are due", x.debt(0, 4), 9);
        Check.due("11 are due", x.debt(1, 4), 11);
        Check.due("20 are due", x.debt(2, 4), 20);
        Check.due("the goods of the one", x.stock(0, 2, 1), 62);
        Check.due("of the other one", x.stock(1, 2, 1), 19);
        Check.due("of the third one", x.stock(2, 2, 1), 19);
        Check.due("lends on what is lent", x.lend(2, 1, 2, 1, 19, 0), 3);
        Check.due("nothing is left", x.stock(2, 2, 1), 0);
        Check.due("lends all", x.lend(0, 2, 2, 1, 62, 0), 4);
        Check.due("68 are due", x.debt(4, 4), 68);
    }

    private static void repay() {
        IceHarbour x = market();
        x.lend(0, 1, 2, 1, 20, 50);
        Check.badState("repays 22 of 20", x, () -> x.repay(0, 2));
        Check.badState("repays where nothing is", x, () -> x.repay(0, 1));
        x.bring(1, 0, 1, 25);
        Check.due("repay(0, 0), elsewhere", x.repay(0, 0), 22);
        Check.due("the debtor's goods", x.stock(1, 0, 1), 3);
        Check.due("the lender's goods there", x.stock(0, 0, 1), 22);
        Check.due("those where it was lent", x.stock(1, 2, 1), 20);
        Check.due("it is paid", x.debt(0, 6), 1);
        x.bring(1, 0, 1, 25);
        Check.badState("repays again", x, () -> x.repay(0, 0));
        x.lend(0, 1, 2, 1, 5, 50);
        x.bring(1, 2, 0, 5);
        Check.due("just as many as are due", x.repay(1, 2), 5);
        x.lend(0, 1, 2, 1, 60, 0);
        x.sell(1, 2, 1, 80);
        x.setPrice(2, 1, 50);
        x.pass(1);
        Check.due("the third one is broken", x.debt(2, 6), 2);
        x.bring(1, 2, 1, 100);
        Check.badState("repays a broken one", x, () -> x.repay(2, 2));
    }

    private static void debt() {
        IceHarbour x = market();
        x.lend(0, 2, 2, 1, 30, 7);
        int[] due = {0, 2, 2, 1, 33, 7, 0};
        x.lend(2, 0, 2, 1, 5, 8);
        int[] dueToo = {2, 0, 2, 1, 5, 8, 0};
        for (int what = 0; what < dueToo.length; what++) {
            Check.due("debt(1, " + what + ")", x.debt(1, what), dueToo[what]);
        }
        Check.due("open debts, one of the merchant 0", x.count(7), 2);
        for (int what = 0; what < due.length; what++) {
            Check.due("debt(0, " + what + ")", x.debt(0, what), due[what]);
        }
        x.bring(2, 2, 1, 8);
        x.repay(0, 2);
        Check.due("debt(0, 6) when it is paid", x.debt(0, 6), 1);
        Check.due("debt(0, 4) when it is paid", x.debt(0, 4), 33);
    }

    private static void dayTakesGoods() {
        IceHarbour x = market();
        x.setPrice(2, 1, 1);
        x.lend(0, 1, 2, 1, 10, 2);
        x.bring(1, 2, 1, 1);
        x.pass(2);
        Check.due("it is open before the day", x.debt(0, 6), 0);
        x.pass(1);
        Check.due("it is paid on the day", x.debt(0, 6), 1);
        Check.due("with goods", x.stock(1, 2, 1), 0);
        Check.due("which the lender has", x.stock(0, 2, 1), 101);
        Check.due("and no coins", x.merchant(1, 0), 20);
        Check.due("no debt is open", x.count(7), 0);
    }

    private static void dayTakesCoins() {
        IceHarbour x = market();
        x.lend(0, 1, 2, 1, 10, 0);
        x.setPrice(2, 1, 2);
        x.bring(1, 0, 1, 50);
        x.bring(1, 2, 0, 50);
        Check.due("22 coins with what he sells", x.sell(1, 2, 1, 1), 22);
        x.pass(1);
        Check.due("it is paid", x.debt(0, 6), 1);
        Check.due("with all his coins", x.merchant(1, 0), 0);
        Check.due("which the lender has", x.merchant(0, 0), 32);
        Check.due("not with the goods there", x.stock(1, 2, 1), 9);
        Check.due("nor with those elsewhere", x.stock(1, 0, 1), 50);
        x.lend(0, 1, 2, 1, 10, 1);
        x.setPrice(2, 1, 0);
        x.sell(1, 2, 1, 19);
        x.pass(1);
        Check.due("what costs nothing is paid", x.debt(1, 6), 1);
        Check.due("with no coins", x.merchant(1, 0), 0);
    }

    private static void dayBreaksDebt() {
        IceHarbour x = market();
        x.lend(0, 1, 2, 1, 10, 0);
        x.setPrice(2, 1, 2);
        x.bring(1, 0, 1, 50);
        x.pass(1);
        Check.due("10 goods and 20 coins are too few", x.debt(0, 6), 2);
        Check.due("he has the goods", x.stock(1, 2, 1), 10);
        Check.due("and the coins", x.merchant(1, 0), 20);
        x.bring(1, 2, 1, 50);
        x.pass(5);
        Check.due("it stays broken", x.debt(0, 6), 2);
        Check.due("and nothing is paid", x.stock(1, 2, 1), 60);
    }

    private static void dayTakesNothingEarly() {
        IceHarbour x = market();
        x.lend(0, 1, 2, 1, 9, 40);
        x.pass(40);
        Check.due("it is open on day 40", x.debt(0, 6), 0);
        x.pass(1);
        Check.due("it is paid on day 41", x.debt(0, 6), 1);
        x.lend(0, 1, 2, 1, 9, MOST);
        x.pass(200);
        Check.due("the other one is open", x.debt(1, 6), 0);
    }

    /** What an earlier debt brings a merchant he has for a later one on the same day, but not the other way. */
    private static void debtsByNumbers() {
        IceHarbour x = market();
        x.lend(0, 1, 2, 1, 9, 0);
        x.lend(1, 2, 2, 1, 9, 0);
        x.setPrice(2, 1, 50);
        x.pass(1);
        Check.due("the first one is broken", x.debt(0, 6), 2);
        Check.due("the second one is paid", x.debt(1, 6), 1);
        IceHarbour y = market();
        y.lend(0, 1, 2, 1, 9, 1);
        y.lend(1, 2, 2, 1, 9, 0);
        y.setPrice(2, 1, 50);
        y.pass(2);
        Check.due("the first one is paid a day later", y.debt(0, 6), 1);
        IceHarbour z = market();
        z.bring(1, 0, 1, 9);
        z.lend(1, 2, 0, 1, 9, 0);
        z.lend(0, 1, 2, 1, 9, 0);
        z.sell(2, 0, 1, 9);
        z.sell(1, 2, 1, 9);
        z.setPrice(0, 1, 3);
        z.setPrice(2, 1, 5);
        z.pass(1);
        Check.due("coins of the first debt", z.merchant(2, 0), 3);
        Check.due("pay the second one", z.debt(1, 6), 1);
        Check.due("coins of the one between", z.merchant(1, 0), 20 + 27 - 45);
    }
}
