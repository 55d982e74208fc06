/** The greatest number of harbours, merchants, boats and debts; no free berth, no room on a boat. */
public final class FullTest {
    public static void main(String[] args) {
        eightHarbours();
        fiveMerchants();
        tenBoats();
        sunkBoatsCount();
        thirtyDebts();
        paidAndBrokenDebtsCount();
        noFreeBerth();
        berthsThatAreLeft();
        noBerthIsFreeToAdvise();
        noRoom();
        allOfThem();
        allOfThemForManyDays();
        Check.end();
    }

    /** "There are at most 8 harbours": a ninth one is refused, the last one and its leg tell what they should. */
    private static void eightHarbours() {
        IceHarbour x = new IceHarbour();
        for (int k = 0; k < 8; k++) {
            Check.due("harbour number", x.addHarbour(k + 1, k % 6), k);
        }
        Check.badState("a ninth one", x, () -> x.addHarbour(1, 0));
        Check.due("harbours", x.count(1), 8);
        Check.due("open legs", x.count(9), 7);
        Check.due("days of the last leg", x.leg(6, 0), 8);
        Check.due("berths of the last harbour", x.harbour(7, 0), 1);
        x.setWarm(0, -9);
        x.pass(1);
        Check.due("ice of the last harbour", x.harbour(7, 3), 9);
        Check.due("ice of the last leg", x.leg(6, 1), 9);
        Check.due("a price there", x.setPrice(7, 3, 9), 0);
    }

    /** "There are at most 5". */
    private static void fiveMerchants() {
        IceHarbour x = Rivers.line(8, 1, 1);
        for (int k = 0; k < 5; k++) {
            Check.due("merchant number", x.addMerchant(10 * k), k);
        }
        Check.badState("a sixth one", x, () -> x.addMerchant(0));
        Check.due("merchants", x.count(2), 5);
        Check.due("coins of the last one", x.merchant(4, 0), 40);
        Check.due("coins of all", x.count(8), 100);
        Check.due("goods of the last one", x.bring(4, 7, 3, 2), 2);
        Check.due("the last one lends", x.lend(4, 3, 7, 3, 1, 0), 0);
    }

    /** "There are at most 10". */
    private static void tenBoats() {
        IceHarbour x = Rivers.line(8, 1, 1);
        x.addMerchant(0);
        for (int k = 0; k < 10; k++) {
            Check.due("boat number", x.build(0, 7 - k % 8, k + 1), k);
        }
        Check.badState("an eleventh one", x, () -> x.build(0, 0, 1));
        Check.due("boats", x.count(3), 10);
        Check.due("boats of the merchant", x.merchant(0, 1), 10);
        Check.due("room of the last one", x.boat(9, 2), 10);
        Check.due("the last one is sent", x.send(9, 0), 12);
        Check.due("and arrives", x.arrives(9), 12);
        Check.due("mean()", x.mean(), 20.0);
    }

    private static void sunkBoatsCount() {
        IceHarbour x = Rivers.line(2, 1, 1);
        Rivers.warm(x, 0, 39, -9);
        x.addMerchant(0);
        for (int k = 0; k < 9; k++) {
            x.build(0, 0, 1);
        }
        Check.due("nine sink", x.pass(22), 9);
        Check.due("a tenth one", x.build(0, 0, 1), 9);
        Check.badState("an eleventh one beside nine sunk ones", x, () -> x.build(0, 0, 1));
        Check.due("boats", x.count(3), 10);
        Check.due("those that are sunk", x.count(4), 9);
    }

    private static IceHarbour lent(int debts) {
        IceHarbour x = Rivers.three();
        x.addMerchant(0);
        x.addMerchant(0);
        x.bring(0, 0, 0, 50);
        for (int k = 0; k < debts; k++) {
            Check.due("debt number", x.lend(0, 1, 0, 0, 1, k), k);
        }
        return x;
    }

    /** "There are at most 30". */
    private static void thirtyDebts() {
        IceHarbour x = lent(30);
        Check.badState("a debt more", x, () -> x.lend(0, 1, 0, 0, 1, 0));
        Check.badState("a debt more, back", x, () -> x.lend(1, 0, 0, 0, 1, 0));
        Check.due("debts", x.count(6), 30);
        Check.due("those that are open", x.count(7), 30);
        Check.due("those of the merchant 1", x.merchant(1, 2), 30);
        Check.due("the day of the last one", x.debt(29, 5), 29);
        x.pass(29);
        Check.due("the last one is open", x.debt(29, 6), 0);
        x.pass(1);
        Check.due("the last one is paid", x.debt(29, 6), 1);
    }

    private static void paidAndBrokenDebtsCount() {
        IceHarbour x = lent(29);
        Check.due("repays the last one", x.repay(28, 0), 1);
        x.setPrice(0, 0, 50);
        x.bring(0, 0, 1, 1);
        x.lend(0, 1, 0, 1, 1, 0);
        x.setPrice(0, 1, 50);
        x.load(x.build(1, 0, 1), 1, 1);
        x.pass(1);
        Check.due("the thirtieth one is broken", x.debt(29, 6), 2);
        Check.badState("a debt beside paid and broken ones", x, () -> x.lend(0, 1, 0, 0, 1, 9));
        Check.due("debts", x.count(6), 30);
        Check.due("those that are open", x.count(7), 27);
    }

    /** Promise 15: "it is to go into a berth, is in none, and none is free". */
    private static void noFreeBerth() {
        IceHarbour x = Rivers.line(2, 1, 2);
        x.addMerchant(100);
        for (int k = 0; k < 4; k++) {
            x.build(0, k / 3, 1);
        }
        Check.due("one is free", x.berth(0, true), 1);
        Check.due("none is free", x.berth(1, true), 0);
        Check.badState("none for the third boat", x, () -> x.berth(2, true));
        Check.due("it stays at anchor", x.berth(2, false), 0);
        Check.due("one that is in one already stays there", x.berth(1, true), 0);
        Check.due("those of another harbour are free", x.berth(3, true), 1);
        Check.due("one leaves it", x.berth(0, false), 1);
        Check.due("then it is free for the third boat", x.berth(2, true), 0);
        Check.due("berths that are taken", x.harbour(0, 1), 2);
    }

    /** Berths are free again behind a boat that has set out, or whose merchant has no coin. */
    private static void berthsThatAreLeft() {
        IceHarbour x = Rivers.line(2, 1, 1);
        x.addMerchant(1);
        x.addMerchant(1);
        x.build(0, 0, 1);
        x.build(1, 0, 1);
        x.berth(0, true);
        x.send(0, 1);
        Check.badState("it has not set out yet", x, () -> x.berth(1, true));
        x.pass(1);
        Check.due("it has", x.berth(1, true), 0);
        x.pass(1);
        Check.due("paid with the last coin", x.boat(1, 3), 1);
        x.send(0, 0);
        x.pass(2);
        Check.due("left without a coin, free for the other one", x.berth(0, true), 0);
    }

    private static void noBerthIsFreeToAdvise() {
        IceHarbour x = new IceHarbour();
        x.addHarbour(1, 0);
        x.addHarbour(1, 1);
        Rivers.warm(x, 0, 39, -9);
        x.addMerchant(5);
        x.addMerchant(100);
        x.build(0, 1, 1);
        x.build(1, 1, 1);
        x.berth(0, true);
        Check.due("the berth is taken till the ice bites", x.advise(1, 5), 0);
        Check.due("the coins last till the fifth day, on the sixth it lies at anchor beside it", x.advise(1, 6), 0);
        Check.due("from the seventh day on it is in it", x.advise(1, 7), 1);
    }

    /** Promise 13: "it has no room for them". */
    private static void noRoom() {
        IceHarbour x = Rivers.three();
        x.addMerchant(0);
        x.bring(0, 0, 0, 50);
        x.bring(0, 0, 3, 50);
        x.build(0, 0, 7);
        Check.badState("one too many at once", x, () -> x.load(0, 0, 8));
        Check.due("just so many", x.load(0, 0, 7), 7);
        Check.badState("one of another kind", x, () -> x.load(0, 3, 1));
        Check.due("one is unloaded", x.load(0, 0, -1), 6);
        Check.badState("two of another kind", x, () -> x.load(0, 3, 2));
        Check.due("one of another kind then", x.load(0, 3, 1), 7);
        Check.due("all of one kind are unloaded from a full boat", x.load(0, 0, -6), 1);
    }

    private static void allOfThem() {
        IceHarbour x = Rivers.full();
        int[] due = {0, 8, 5, 10, 0, 0, 30, 30, 250, 7};
        for (int what = 0; what < 10; what++) {
            Check.due("count(" + what + ")", x.count(what), due[what]);
        }
        Answers.digestIsDue("of a full river", Rivers::full);
    }

    /** A winter that sinks the boats that are sent to the other end of the river, not those that lie in berths. */
    private static IceHarbour fullFor(int days) {
        IceHarbour x = Rivers.full();
        Rivers.warm(x, 10, 30, -6);
        for (int k = 0; k < 10; k++) {
            x.bring(k % 5, k % 8, 2, 9);
            x.load(k, 2, k % 9 + 1);
            if (k < 4) {
                x.berth(k, true);
            } else {
                x.send(k, 7 - k % 8);
            }
        }
        for (int k = 0; k < days; k++) {
            x.pass(1);
        }
        return x;
    }

    private static void allOfThemForManyDays() {
        for (int days = 0; days <= 60; days += 5) {
            int past = days;
            Answers.digestIsDue("of a full river on day " + days, () -> fullFor(past));
        }
        Check.due("boats that are sunk", fullFor(60).count(4), 6);
    }
}
