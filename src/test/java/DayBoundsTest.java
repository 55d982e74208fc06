/** The bounds of the course of a day in "Terms", each at the last number on one side and the first on the other. */
public final class DayBoundsTest {
    public static void main(String[] args) {
        iceIsAtMost60();
        iceIsAtLeast0();
        legIsOpenWithIceOf10();
        boatSetsOutWithIceOf10();
        boatGoesOnWithIceOf10();
        boatGoesUpWithIceOf10();
        dayOnWhichItSetsOutIsOneOfThem();
        boatWithNoDayLeftGoesOnNextDay();
        iceOf21BitesOnALeg();
        iceOf21BitesAtAnchor();
        iceDoesNotBiteInABerth();
        iceOfTheLegBelow();
        lastPointOfHull();
        boatSinksWithAllThatIsOnIt();
        debtOnItsDay();
        debtWithJustTheGoods();
        debtWithJustTheCoins();
        debtWithOneCoinTooFew();
        berthWithTheLastCoin();
        dayIsOneGreater();
        Check.end();
    }

    /** With so much ice on the leg (or legs), as from frost on the first days; it stays as it is from then on. */
    private static IceHarbour iced(int harbours, int legDays, int berths, int ice) {
        IceHarbour x = Rivers.line(harbours, legDays, berths);
        Rivers.warm(x, 0, 39, 0);
        int days = 0;
        for (int left = ice; left > 0; left -= 9) {
            x.setWarm(days++, -Math.min(9, left));
        }
        if (days > 0) {
            x.pass(days);
        }
        Rivers.warm(x, 0, days, 0);
        return x;
    }

    private static int iceBehind(int ice, int warm) {
        IceHarbour x = iced(2, 1, 0, ice);
        Check.due("ice at first", x.leg(0, 1), ice);
        x.setWarm(x.count(0), warm);
        x.pass(1);
        return x.leg(0, 1);
    }

    /** Step 1: "with frost of n it is n more", "0 to 60". */
    private static void iceIsAtMost60() {
        Check.due("58 and 1", iceBehind(58, -1), 59);
        Check.due("59 and 1", iceBehind(59, -1), 60);
        Check.due("60 and 1", iceBehind(60, -1), 60);
        Check.due("51 and 9", iceBehind(51, -9), 60);
        Check.due("52 and 9", iceBehind(52, -9), 60);
        Check.due("60 and 9", iceBehind(60, -9), 60);
        Check.due("60 and 0", iceBehind(60, 0), 60);
        IceHarbour x = iced(2, 1, 0, 60);
        x.setWarm(x.count(0), -9);
        x.setWarm(x.count(0) + 1, 1);
        x.pass(2);
        Check.due("what is above 60 is no ice to thaw", x.leg(0, 1), 58);
    }

    /** Step 1: "with a warmth of n 2 * n less", "0 to 60". */
    private static void iceIsAtLeast0() {
        Check.due("3 less 2", iceBehind(3, 1), 1);
        Check.due("2 less 2", iceBehind(2, 1), 0);
        Check.due("1 less 2", iceBehind(1, 1), 0);
        Check.due("0 less 2", iceBehind(0, 1), 0);
        Check.due("18 less 18", iceBehind(18, 9), 0);
        Check.due("17 less 18", iceBehind(17, 9), 0);
        Check.due("19 less 18", iceBehind(19, 9), 1);
        Check.due("60 less 18", iceBehind(60, 9), 42);
        Check.due("0 and 0", iceBehind(0, 0), 0);
        IceHarbour x = iced(2, 1, 0, 0);
        x.setWarm(0, 9);
        x.setWarm(1, -1);
        x.pass(2);
        Check.due("what is below 0 is no warmth to come", x.leg(0, 1), 1);
    }

    /** "it is open with ice of at most 10". */
    private static void legIsOpenWithIceOf10() {
        IceHarbour ten = iced(3, 1, 0, 10);
        Check.due("leg(1, 2) with 10", ten.leg(1, 2), 1);
        Check.due("count(9) with 10", ten.count(9), 2);
        Check.due("opens(1) with 10", ten.opens(1), 0);
        Check.due("latest(0, 2) with 10", ten.latest(0, 2), 60);
        IceHarbour eleven = iced(3, 1, 0, 11);
        Check.due("leg(1, 2) with 11", eleven.leg(1, 2), 0);
        Check.due("count(9) with 11", eleven.count(9), 0);
        Check.due("opens(1) with 11", eleven.opens(1), -1);
        Check.due("latest(0, 2) with 11", eleven.latest(0, 2), -1);
    }

    /** Step 3: "sets out, if the leg towards it is open". */
    private static void boatSetsOutWithIceOf10() {
        for (int ice = 9; ice <= 12; ice++) {
            IceHarbour x = iced(2, 3, 0, ice);
            x.addMerchant(0);
            x.build(0, 0, 1);
            x.build(0, 1, 1);
            x.send(0, 1);
            x.send(1, 0);
            Check.due("arrives(0) with ice of " + ice, x.arrives(0), ice <= 10 ? 3 : -1);
            x.pass(1);
            Check.due("down, with ice of " + ice, x.boat(0, 3), ice <= 10 ? 2 : 0);
            Check.due("up, with ice of " + ice, x.boat(1, 3), ice <= 10 ? 2 : 0);
            Check.due("boats on the leg, with ice of " + ice, x.leg(0, 3), ice <= 10 ? 2 : 0);
        }
    }

    /** Step 3: "One that was on a leg already, and this is open, has a day less to go". */
    private static void boatGoesOnWithIceOf10() {
        for (int ice = 9; ice <= 12; ice++) {
            IceHarbour x = iced(2, 5, 0, 9);
            x.addMerchant(0);
            x.build(0, 0, 1);
            x.send(0, 1);
            x.pass(1);
            Check.due("days to go", x.boat(0, 6), 4);
            x.setWarm(x.count(0), 9 - ice);
            x.pass(1);
            Check.due("ice", x.leg(0, 1), ice);
            Check.due("days to go with ice of " + ice, x.boat(0, 6), ice <= 10 ? 3 : 4);
            x.pass(1);
            Check.due("a day later", x.boat(0, 6), ice <= 10 ? 2 : 4);
        }
    }

    private static void boatGoesUpWithIceOf10() {
        for (int ice = 9; ice <= 12; ice++) {
            IceHarbour x = iced(2, 1, 0, 9);
            x.addMerchant(0);
            x.build(0, 1, 1);
            x.send(0, 0);
            x.pass(1);
            x.setWarm(x.count(0), 9 - ice);
            x.pass(1);
            Check.due("it is there with ice of " + ice, x.boat(0, 3), ice <= 10 ? 0 : 2);
            Check.due("its days to go", x.boat(0, 6), ice <= 10 ? 0 : 1);
        }
    }

    /** Step 3: "has as many days to go as this takes less 1 (this day is one of them)"; "(in both cases)". */
    private static void dayOnWhichItSetsOutIsOneOfThem() {
        for (int days = 1; days <= 9; days++) {
            IceHarbour x = iced(2, days, 0, 0);
            x.addMerchant(0);
            x.build(0, 0, 1);
            x.build(0, 1, 1);
            x.send(0, 1);
            x.send(1, 0);
            x.pass(1);
            Check.due("down a leg of " + days, x.boat(0, 6), days - 1);
            Check.due("on it, or there", x.boat(0, 3), days == 1 ? 0 : 2);
            Check.due("up a leg of " + days, x.boat(1, 6), 2 * days - 1);
            Check.due("on it", x.boat(1, 3), 2);
        }
    }

    /** Step 3: "on the next day it goes on, if this is not its goal". */
    private static void boatWithNoDayLeftGoesOnNextDay() {
        IceHarbour x = iced(4, 1, 0, 0);
        x.addMerchant(0);
        x.build(0, 0, 1);
        x.send(0, 2);
        int[] harbours = {1, 2, 2, 2};
        for (int day = 0; day < harbours.length; day++) {
            x.pass(1);
            Check.due("a harbour a day, behind day " + day, x.boat(0, 4), harbours[day]);
            Check.due("at anchor behind day " + day, x.boat(0, 3), 0);
        }
    }

    /** Step 3: "one that is on a leg with ice of more than 20". */
    private static void iceOf21BitesOnALeg() {
        for (int ice = 19; ice <= 22; ice++) {
            IceHarbour x = iced(2, 9, 0, 9);
            x.addMerchant(0);
            x.build(0, 0, 1);
            x.send(0, 1);
            x.pass(1);
            x.setWarm(x.count(0), -9);
            x.setWarm(x.count(0) + 1, 18 - ice);
            x.pass(1);
            Check.due("hull on a leg with ice of 18", x.boat(0, 1), 20);
            x.pass(1);
            Check.due("hull on a leg with ice of " + ice, x.boat(0, 1), ice <= 20 ? 20 : 19);
            x.pass(1);
            Check.due("hull a day later", x.boat(0, 1), ice <= 20 ? 20 : 18);
        }
    }

    /** Step 3: "or lies at anchor in a harbour with such ice". */
    private static void iceOf21BitesAtAnchor() {
        for (int ice = 19; ice <= 22; ice++) {
            IceHarbour x = iced(3, 1, 0, ice);
            x.addMerchant(0);
            for (int k = 0; k < 3; k++) {
                x.build(0, k, 1);
            }
            x.send(1, 0);
            x.pass(1);
            for (int k = 0; k < 3; k++) {
                Check.due("hull at anchor in " + k + " with ice of " + ice, x.boat(k, 1), ice <= 20 ? 20 : 19);
            }
        }
    }

    private static void iceDoesNotBiteInABerth() {
        IceHarbour x = iced(2, 1, 5, 60);
        x.addMerchant(2);
        x.build(0, 0, 1);
        x.berth(0, true);
        x.send(0, 1);
        x.pass(2);
        Check.due("hull in a berth with ice of 60", x.boat(0, 1), 20);
        Check.due("it waits there for its leg", x.boat(0, 3), 1);
        x.pass(1);
        Check.due("hull on the day without a coin", x.boat(0, 1), 19);
    }

    /** "The ice of a harbour is that of the leg below it, of the last one that of the leg above it". */
    private static void iceOfTheLegBelow() {
        IceHarbour x = iced(3, 1, 0, 21);
        x.addHarbour(1, 0);
        x.addHarbour(1, 0);
        x.addMerchant(0);
        int[] ice = {21, 21, 0, 0, 0};
        for (int k = 0; k < 5; k++) {
            Check.due("ice of the harbour " + k, x.harbour(k, 3), ice[k]);
            x.build(0, k, 1);
        }
        x.pass(1);
        for (int k = 0; k < 5; k++) {
            Check.due("hull in the harbour " + k, x.boat(k, 1), ice[k] > 20 ? 19 : 20);
        }
    }

    /** "a hull, 0 to 20", "with none left it is sunk". */
    private static void lastPointOfHull() {
        IceHarbour x = iced(2, 1, 0, 21);
        x.addMerchant(0);
        x.build(0, 0, 1);
        for (int hull = 19; hull >= 1; hull--) {
            Check.due("none sinks", x.pass(1), 0);
            Check.due("hull that is left", x.boat(0, 1), hull);
            Check.due("at anchor", x.boat(0, 3), 0);
        }
        Check.due("it sinks", x.pass(1), 1);
        Check.due("no hull is left", x.boat(0, 1), 0);
        Check.due("it is sunk", x.boat(0, 3), 3);
        Check.due("it is nowhere", x.boat(0, 4), -1);
        Check.due("it sinks but once", x.pass(1), 0);
        Check.due("no hull less than 0", x.boat(0, 1), 0);
    }

    /** Step 3: "with all that is on it": what its merchant has at harbours is left to him. */
    private static void boatSinksWithAllThatIsOnIt() {
        IceHarbour x = iced(2, 1, 0, 21);
        x.addMerchant(0);
        x.build(0, 1, 9);
        for (int good = 0; good < 4; good++) {
            x.bring(0, 1, good, 5);
            x.load(0, good, 2);
        }
        x.pass(19);
        Check.due("goods on boats with a point of hull", x.merchant(0, 5), 8);
        x.pass(1);
        Check.due("goods on boats", x.merchant(0, 5), 0);
        Check.due("goods at harbours", x.merchant(0, 4), 12);
        for (int what = 7; what < 12; what++) {
            Check.due("boat(0, " + what + ")", x.boat(0, what), 0);
        }
    }

    /** Merchant 1 owes 11 of the good 2 that merchant 0 lent at the harbour 1, due on this day. */
    private static IceHarbour lent(int goods, int coins, int price, int day) {
        IceHarbour x = Rivers.three();
        x.addMerchant(0);
        x.addMerchant(coins);
        x.bring(0, 1, 2, 10);
        x.lend(0, 1, 1, 2, 10, day);
        if (goods > 10) {
            x.bring(1, 1, 2, goods - 10);
        } else if (goods < 10) {
            x.sell(1, 1, 2, 10 - goods);
        }
        x.setPrice(1, 2, price);
        return x;
    }

    private static void expect(String what, IceHarbour x, int... due) {
        int[] got = {
            x.debt(0, 6), x.stock(0, 1, 2), x.stock(1, 1, 2), x.merchant(0, 0), x.merchant(1, 0),
        };
        String[] names = {"state", "lender's goods", "debtor's goods", "lender's coins", "debtor's coins"};
        for (int k = 0; k < due.length; k++) {
            Check.due(names[k] + " " + what, got[k], due[k]);
        }
    }

    /** Step 4: "an open one that is due on this day or earlier": on its day, not on the one before. */
    private static void debtOnItsDay() {
        for (int day = 0; day < 3; day++) {
            IceHarbour x = lent(11, 0, 0, day);
            if (day > 0) {
                x.pass(day);
            }
            expect("before the day " + day, x, 0, 0, 11, 0, 0);
            x.pass(1);
            expect("behind the day " + day, x, 1, 11, 0, 0, 0);
            x.pass(40);
            expect("many days later", x, 1, 11, 0, 0, 0);
        }
    }

    /** Step 4: "if the debtor has as many of these goods at the harbour where it was lent". */
    private static void debtWithJustTheGoods() {
        IceHarbour x = lent(11, 500, 9, 0);
        x.pass(1);
        expect("with 11 goods of 11", x, 1, 11, 0, 0, 500);
        IceHarbour y = lent(12, 500, 9, 0);
        y.pass(1);
        expect("with 12 goods of 11", y, 1, 11, 1, 0, 500);
        IceHarbour z = lent(10, 500, 9, 0);
        z.bring(1, 0, 2, 50);
        z.bring(1, 1, 1, 50);
        z.pass(1);
        expect("with 10 goods of 11", z, 1, 0, 10, 99, 401);
    }

    /** Step 4: "otherwise, if the debtor has as many coins as they cost at the price there". */
    private static void debtWithJustTheCoins() {
        IceHarbour x = lent(0, 99, 9, 0);
        x.setPrice(0, 2, 50);
        x.setPrice(1, 1, 50);
        x.pass(1);
        expect("with 99 coins of 99", x, 1, 0, 0, 99, 0);
        IceHarbour y = lent(10, 100, 9, 0);
        y.pass(1);
        expect("with 100 coins of 99", y, 1, 0, 10, 99, 1);
        IceHarbour z = lent(10, 550, 50, 0);
        z.pass(1);
        expect("at the greatest price", z, 1, 0, 10, 550, 0);
    }

    /** Step 4: "otherwise it is broken": goods and coins are not taken together. */
    private static void debtWithOneCoinTooFew() {
        IceHarbour x = lent(10, 98, 9, 0);
        x.pass(1);
        expect("with 98 coins of 99 and 10 goods of 11", x, 2, 0, 10, 0, 98);
        x.bring(1, 1, 2, 1);
        x.pass(1);
        expect("with the goods a day too late", x, 2, 0, 11, 0, 98);
        Check.due("it is not open", x.count(7), 0);
    }

    /** Step 2: "the merchant of a boat in a berth pays a coin; without one the boat lies at anchor". */
    private static void berthWithTheLastCoin() {
        for (int coins = 0; coins <= 4; coins++) {
            IceHarbour x = iced(2, 1, 5, 0);
            x.addMerchant(coins);
            x.addMerchant(9);
            for (int k = 0; k < 3; k++) {
                x.build(0, 0, 1);
                x.berth(k, true);
            }
            x.pass(1);
            for (int k = 0; k < 3; k++) {
                Check.due("boat " + k + " with " + coins + " coins", x.boat(k, 3), k < coins ? 1 : 0);
            }
            Check.due("coins left of " + coins, x.merchant(0, 0), Math.max(0, coins - 3));
            Check.due("coins of another one", x.merchant(1, 0), 9);
            Check.due("berths that are taken", x.harbour(0, 1), Math.min(3, coins));
        }
    }

    /** Step 5. */
    private static void dayIsOneGreater() {
        IceHarbour x = Rivers.three();
        for (int day = 0; day < 100; day++) {
            Check.due("the day", x.count(0), day);
            x.pass(1);
        }
    }
}
