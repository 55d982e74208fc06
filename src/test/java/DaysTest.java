/** Promises 21 and 22, pass and count, and the course of a day but for debts. */
public final class DaysTest {
    public static void main(String[] args) {
        passCountsSunkBoats();
        count();
        berthsArePaid();
        berthsArePaidByNumbers();
        berthIsPaidBeforeTheIceBites();
        berthIsPaidBeforeDebts();
        boatSetsOutOnOpenLegs();
        boatStandsStillOnClosedLegs();
        boatGoesOnTheNextDay();
        boatGoesUp();
        iceBitesAbove20();
        iceBitesWhereABoatComesIn();
        fullRiver();
        Check.end();
    }

    private static void passCountsSunkBoats() {
        IceHarbour x = Rivers.line(2, 1, 1);
        Rivers.warm(x, 0, 39, -9);
        x.addMerchant(5);
        for (int k = 0; k < 3; k++) {
            x.build(0, 0, 1);
        }
        x.berth(1, true);
        Check.due("none sinks in 21 days", x.pass(21), 0);
        Check.due("two sink on the next one", x.pass(1), 2);
        Check.due("one is left", x.count(3) - x.count(4), 1);
        Check.due("its hull behind three days without a coin", x.boat(1, 1), 3);
        Check.due("it sinks three days later, the others but once", x.pass(100), 1);
        Check.due("no more are there to sink", x.pass(100), 0);
    }

    private static void count() {
        IceHarbour x = Rivers.three();
        x.addMerchant(10);
        x.addMerchant(20);
        for (int k = 0; k < 4; k++) {
            x.build(k % 2, 0, 1);
        }
        x.bring(0, 0, 0, 9);
        for (int day = 0; day < 3; day++) {
            x.lend(0, 1, 0, 0, 1, day + 1);
        }
        x.send(3, 2);
        x.pass(2);
        expect(x, 2, 3, 2, 4, 0, 1, 3, 2, 30, 2);
        x.send(2, 1);
        x.berth(0, true);
        Rivers.warm(x, 0, 39, -9);
        x.pass(1);
        expect(x, 3, 3, 2, 4, 0, 1, 3, 1, 29, 2);
        Check.due("the boat 3 lies in the harbour 1", x.boat(3, 3), 0);
        x.addHarbour(1, 1);
        x.pass(1);
        expect(x, 4, 4, 2, 4, 0, 1, 3, 0, 28, 1);
        x.pass(30);
        expect(x, 34, 4, 2, 4, 4, 0, 3, 0, 20, 0);
    }

    private static void expect(IceHarbour x, int... due) {
        for (int what = 0; what < due.length; what++) {
            Check.due("count(" + what + ") on day " + x.count(0), x.count(what), due[what]);
        }
    }

    private static void berthsArePaid() {
        IceHarbour x = Rivers.line(2, 4, 2);
        x.addMerchant(3);
        x.build(0, 0, 1);
        x.build(0, 0, 1);
        x.berth(0, true);
        x.pass(1);
        Check.due("a boat in a berth costs a coin a day, one at anchor none", x.merchant(0, 0), 2);
        x.send(0, 1);
        x.pass(1);
        Check.due("it is on the leg", x.boat(0, 3), 2);
        Check.due("and has paid on the day on which it set out", x.merchant(0, 0), 1);
        x.pass(3);
        Check.due("it lies at anchor in its goal", x.boat(0, 3), 0);
        Check.due("it costs nothing on the leg", x.merchant(0, 0), 1);
        x.berth(0, true);
        x.pass(1);
        Check.due("it stays in the berth for the last coin", x.boat(0, 3), 1);
        x.pass(1);
        Check.due("it lies at anchor without one", x.boat(0, 3), 0);
        Check.due("coins", x.merchant(0, 0), 0);
        x.pass(1);
        Check.due("and stays there", x.boat(0, 3), 0);
    }

    private static void berthsArePaidByNumbers() {
        IceHarbour x = Rivers.line(2, 1, 5);
        x.addMerchant(2);
        x.addMerchant(1);
        int[] owners = {1, 0, 0, 0, 1};
        for (int k = 0; k < owners.length; k++) {
            x.build(owners[k], 1, 1);
            x.berth(k, true);
        }
        x.pass(1);
        int[] due = {1, 1, 1, 0, 0};
        for (int k = 0; k < due.length; k++) {
            Check.due("where the boat " + k + " is", x.boat(k, 3), due[k]);
        }
        Check.due("coins of all", x.count(8), 0);
    }

    private static void berthIsPaidBeforeTheIceBites() {
        IceHarbour x = Rivers.line(2, 1, 1);
        Rivers.warm(x, 0, 39, -9);
        x.addMerchant(3);
        x.build(0, 1, 1);
        x.berth(0, true);
        x.pass(3);
        Check.due("no ice bites in a berth", x.boat(0, 1), 20);
        x.pass(1);
        Check.due("it bites on the day without a coin", x.boat(0, 1), 19);
    }

    private static void berthIsPaidBeforeDebts() {
        IceHarbour x = Rivers.line(2, 1, 1);
        x.addMerchant(0);
        x.addMerchant(10);
        x.build(1, 0, 1);
        x.build(0, 1, 1);
        x.berth(0, true);
        x.berth(1, true);
        x.bring(0, 0, 0, 2);
        x.lend(0, 1, 0, 0, 1, 0);
        x.lend(0, 1, 0, 0, 1, 0);
        x.sell(1, 0, 0, 2);
        x.setPrice(0, 0, 5);
        x.pass(1);
        Check.due("the first debt is paid", x.debt(0, 6), 1);
        Check.due("a coin too few is left for the second", x.debt(1, 6), 2);
        Check.due("coins from a debt come too late for the berth", x.boat(1, 3), 0);
        Check.due("of the lender", x.merchant(0, 0), 5);
    }

    private static void boatSetsOutOnOpenLegs() {
        IceHarbour x = Rivers.line(2, 3, 0);
        Rivers.warm(x, 0, 39, 0);
        x.setWarm(0, -8);
        x.setWarm(1, -3);
        x.setWarm(3, 1);
        x.setWarm(5, -9);
        x.addMerchant(0);
        x.build(0, 0, 1);
        x.pass(1);
        x.send(0, 1);
        x.pass(2);
        Check.due("with ice of 11 it does not set out", x.boat(0, 3), 0);
        Check.due("the ice", x.leg(0, 1), 11);
        x.pass(1);
        Check.due("with 9 it does, the ice of this day counts", x.boat(0, 3), 2);
        Check.due("this day is one of three", x.boat(0, 6), 2);
        Check.due("it is on its way to 1", x.boat(0, 4), 1);
        IceHarbour y = Rivers.line(2, 1, 0);
        Rivers.warm(y, 0, 39, 0);
        y.setWarm(0, -9);
        y.setWarm(1, -1);
        y.addMerchant(0);
        y.build(0, 0, 1);
        y.pass(1);
        y.send(0, 1);
        y.pass(1);
        Check.due("with ice of 10 it sets out", y.boat(0, 4), 1);
        Check.due("a leg of one day is gone on the day itself", y.boat(0, 3), 0);
        Check.due("with no day left", y.boat(0, 6), 0);
    }

    private static void boatStandsStillOnClosedLegs() {
        IceHarbour x = Rivers.line(2, 3, 0);
        Rivers.warm(x, 0, 39, 0);
        x.setWarm(1, -9);
        x.setWarm(2, -2);
        x.setWarm(5, 1);
        x.addMerchant(0);
        x.build(0, 0, 1);
        x.send(0, 1);
        int[] daysToGo = {2, 1, 1, 1, 1, 0};
        for (int day = 0; day < daysToGo.length; day++) {
            x.pass(1);
            Check.due("days to go behind day " + day, x.boat(0, 6), daysToGo[day]);
        }
        Check.due("it lies in the harbour", x.boat(0, 3), 0);
        Check.due("its hull is whole", x.boat(0, 1), 20);
    }

    private static void boatGoesOnTheNextDay() {
        IceHarbour x = Rivers.three();
        x.addMerchant(0);
        x.build(0, 0, 1);
        x.send(0, 2);
        int[] places = {2, 2, 0, 2, 0, 0};
        int[] harbours = {1, 1, 1, 2, 2, 2};
        for (int day = 0; day < places.length; day++) {
            x.pass(1);
            Check.due("boat(0, 3) behind day " + day, x.boat(0, 3), places[day]);
            Check.due("boat(0, 4) behind day " + day, x.boat(0, 4), harbours[day]);
        }
    }

    private static void boatGoesUp() {
        IceHarbour x = Rivers.three();
        x.addMerchant(0);
        x.build(0, 2, 1);
        x.send(0, 0);
        int[] daysToGo = {3, 2, 1, 0, 5, 4, 3, 2, 1, 0, 0};
        int[] legOneBoats = {1, 1, 1, 0, 0, 0, 0, 0, 0, 0, 0};
        int[] legZeroBoats = {0, 0, 0, 0, 1, 1, 1, 1, 1, 0, 0};
        for (int day = 0; day < daysToGo.length; day++) {
            x.pass(1);
            Check.due("days to go behind day " + day, x.boat(0, 6), daysToGo[day]);
            Check.due("boats on the leg 1 behind day " + day, x.leg(1, 3), legOneBoats[day]);
            Check.due("boats on the leg 0 behind day " + day, x.leg(0, 3), legZeroBoats[day]);
        }
        Check.due("it is there", x.boat(0, 4), 0);
    }

    private static void iceBitesAbove20() {
        IceHarbour x = Rivers.line(2, 9, 1);
        Rivers.warm(x, 0, 39, 0);
        x.setWarm(1, -9);
        x.setWarm(2, -9);
        x.setWarm(3, -2);
        x.setWarm(5, -1);
        x.setWarm(7, 1);
        x.addMerchant(100);
        x.build(0, 0, 1);
        x.build(0, 0, 1);
        x.build(0, 1, 1);
        x.build(0, 1, 1);
        x.berth(3, true);
        x.send(0, 1);
        int[] hulls = {20, 20, 20, 20, 20, 19, 18, 18, 18};
        for (int day = 0; day < hulls.length; day++) {
            x.pass(1);
            Check.due("hull on the leg behind day " + day, x.boat(0, 1), hulls[day]);
            Check.due("hull at anchor behind day " + day, x.boat(1, 1), hulls[day]);
            Check.due("hull at anchor below behind day " + day, x.boat(2, 1), hulls[day]);
            Check.due("hull in a berth behind day " + day, x.boat(3, 1), 20);
        }
    }

    /** As many of all as there can be. */
    private static void fullRiver() {
        IceHarbour x = Rivers.line(8, 2, 5);
        for (int k = 0; k < 5; k++) {
            x.addMerchant(50);
            x.bring(k, 7, 3, 60);
        }
        for (int k = 0; k < 10; k++) {
            x.build(k % 5, 7, 60);
            x.load(k, 3, 10);
            x.send(k, k % 8);
        }
        for (int k = 0; k < 30; k++) {
            x.lend(k % 5, (k + 1) % 5, 7, 3, 1, k);
        }
        Check.due("latest(7, 0)", x.latest(7, 0), 60);
        Check.due("arrives(8)", x.arrives(8), 28);
        Check.due("arrives(9)", x.arrives(9), 24);
        Check.due("opens(6)", x.opens(6), 0);
        Check.due("advise(9, 120)", x.advise(9, 120), 0);
        Check.due("mean()", x.mean(), 20.0);
        Check.due("boats that are not at their goal", x.harbour(7, 2), 10);
        x.pass(27);
        Check.due("debts that are due later", x.count(7), 3);
        Check.due("boats on legs", x.count(5), 2);
        Check.due("on the last one", x.leg(0, 3), 2);
        x.pass(173);
        expect(x, 200, 8, 5, 10, 0, 0, 30, 0, 250, 7);
        Check.due("boats in the harbour 0", x.harbour(0, 2), 2);
        Check.due("goods of the merchant 4", x.merchant(4, 4) + x.merchant(4, 5), 60);
        expectDistinct(x);
    }

    private static void expectDistinct(IceHarbour x) {
        for (int k = 0; k < 10; k++) {
            Check.due("where the boat " + k + " is", x.boat(k, 4), k % 8);
            Check.due("what is on it", x.boat(k, 11), 10);
        }
    }

    /** The leg below the goal is older here and has thick ice, the one above it is open. */
    private static void iceBitesWhereABoatComesIn() {
        IceHarbour x = Rivers.line(2, 1, 0);
        Rivers.warm(x, 0, 39, 0);
        Rivers.warm(x, 0, 2, -9);
        x.pass(3);
        x.addHarbour(1, 0);
        x.addMerchant(0);
        x.build(0, 2, 1);
        x.send(0, 1);
        x.pass(1);
        Check.due("it is on the new leg", x.boat(0, 3), 2);
        Check.due("its ice does not bite", x.boat(0, 1), 20);
        x.pass(1);
        Check.due("it has come to the harbour 1", x.boat(0, 4), 1);
        Check.due("the ice there is that of the new leg", x.boat(0, 1), 20);
        IceHarbour y = Rivers.line(2, 1, 0);
        Rivers.warm(y, 0, 39, 0);
        Rivers.warm(y, 0, 2, -9);
        y.addMerchant(0);
        y.pass(3);
        y.addHarbour(1, 0);
        y.addHarbour(1, 0);
        y.build(0, 1, 1);
        y.send(0, 0);
        y.pass(1);
        Check.due("the old leg holds it", y.boat(0, 4), 1);
        Check.due("in the ice of the new one", y.boat(0, 1), 20);
        y.build(0, 0, 1);
        y.send(1, 2);
        y.pass(1);
        Check.due("in the old one's ice it is bitten", y.boat(1, 1), 19);
    }
}
