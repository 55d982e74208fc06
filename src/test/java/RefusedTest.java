/**
 * Each "Throws" sentence of the promises 2 to 26: which exception it is, the next number below and above each bound,
 * which one where several apply, and that a refused call changes nothing.
 */
public final class RefusedTest {
    private static final int LEAST = Integer.MIN_VALUE;
    private static final int MOST = Integer.MAX_VALUE;

    public static void main(String[] args) {
        busyIsAsTold();
        setWarm();
        addHarbour();
        setPrice();
        harbourAndLeg();
        addMerchant();
        bring();
        sell();
        stockAndMerchant();
        build();
        load();
        loadJustTooMuch();
        send();
        berth();
        berthWhereNoneIsFree();
        mendAndBoat();
        lend();
        lendToHimself();
        lendTillYesterday();
        lendMoreThanThirty();
        repay();
        debt();
        passAndCount();
        lookingAhead();
        withoutHarbours();
        withOneHarbour();
        withoutMerchants();
        withoutBoats();
        withoutDebts();
        Check.end();
    }

    private static Refusals busy(String name, Refusals.Call call) {
        return new Refusals(name, Rivers::busy, call);
    }

    private static Refusals full(String name, Refusals.Call call) {
        return new Refusals(name, Rivers::full, call).neverNow();
    }

    private static void busyIsAsTold() {
        IceHarbour x = Rivers.busy();
        int[] places = {3, 0, 1, 2};
        for (int boat = 0; boat < 4; boat++) {
            Check.due("where the boat " + boat + " of the busy river is", x.boat(boat, 3), places[boat]);
        }
        int[] states = {1, 2, 0};
        for (int debt = 0; debt < 3; debt++) {
            Check.due("the debt " + debt + " of the busy river", x.debt(debt, 6), states[debt]);
        }
        Check.due("what the boat 1 may load", x.stock(0, 0, 0), 10);
        Check.due("the busy day", x.count(0), 37);
    }

    private static void setWarm() {
        busy("setWarm", (x, a) -> x.setWarm(a[0], a[1])).index(40).number(-9, 9).check();
    }

    private static void addHarbour() {
        Refusals.Call call = (x, a) -> x.addHarbour(a[0], a[1]);
        busy("addHarbour", call).number(1, 9).number(0, 5).check();
        new Refusals("addHarbour, the first one,", IceHarbour::new, call).number(1, 9).number(0, 5).check();
        full("addHarbour, a ninth one,", call).number(1, 9).number(0, 5).check();
    }

    private static void setPrice() {
        busy("setPrice", (x, a) -> x.setPrice(a[0], a[1], a[2])).index(3).index(4).number(0, 50).check();
    }

    private static void harbourAndLeg() {
        busy("harbour", (x, a) -> x.harbour(a[0], a[1])).index(3).index(8).check();
        busy("leg", (x, a) -> x.leg(a[0], a[1])).index(2).index(4).check();
    }

    private static void addMerchant() {
        busy("addMerchant", (x, a) -> x.addMerchant(a[0])).number(0, 5000).check();
        full("addMerchant, a sixth one,", (x, a) -> x.addMerchant(a[0])).number(0, 5000).check();
    }

    private static void bring() {
        busy("bring", (x, a) -> x.bring(a[0], a[1], a[2], a[3]))
            .index(2).index(3).index(4).number(1, 100).check();
    }

    private static void sell() {
        Refusals.Call call = (x, a) -> x.sell(a[0], a[1], a[2], a[3]);
        busy("sell", call).index(2).index(3).index(4)
            .fine(1, 10).badArgument(0, -1, LEAST).badState(101, MOST).check();
        busy("sell of 10", call).fine(0).fine(0).fine(0).fine(10).badState(11).check();
        busy("sell of what is elsewhere", call).fine(0, 1).fine().badState(1).fine(0, 3).fine(1)
            .badArgument(0).check();
    }

    private static void stockAndMerchant() {
        busy("stock", (x, a) -> x.stock(a[0], a[1], a[2])).index(2).index(3).index(4).check();
        busy("merchant", (x, a) -> x.merchant(a[0], a[1])).index(2).index(6).check();
    }

    private static void build() {
        Refusals.Call call = (x, a) -> x.build(a[0], a[1], a[2]);
        busy("build", call).index(2).index(3).number(1, 60).check();
        full("build, an eleventh one,", call).index(5).index(8).number(1, 60).check();
    }

    /** The boat 0 is sunk, the boat 3 on a leg. */
    private static void load() {
        Refusals.Call call = (x, a) -> x.load(a[0], a[1], a[2]);
        busy("load", call).fine(1, 2).outOfBounds(-1, 4, LEAST, MOST).badState(0, 3).index(4)
            .fine(1).badArgument(0, 61, -61, LEAST, MOST).badState(60, -60).check();
    }

    private static void loadJustTooMuch() {
        Refusals.Call call = (x, a) -> x.load(1, a[0], a[1]);
        busy("load of 10 ashore, on the boat 1,", call).fine(0).fine(10).badState(11).check();
        busy("unload of 10 from the boat 1,", call).fine(0).fine(-10).badState(-11).check();
        busy("unload of what is not on the boat 1,", call).fine().badState(3).fine(-1).badArgument(0).check();
        Answers.Maker plenty = () -> {
            IceHarbour x = Rivers.busy();
            x.bring(0, 0, 3, 100);
            return x;
        };
        new Refusals("load with room for 20, on the boat 1,", plenty, call).fine(3).fine(20).badState(21, 60)
            .badArgument(61).check();
        Answers.Maker laden = () -> {
            IceHarbour x = plenty.make();
            x.load(1, 3, 20);
            return x;
        };
        new Refusals("load without room, on the boat 1,", laden, call).fine(3).outOfBounds(4).fine(-1, -20)
            .badState(1).badArgument(0).check();
    }

    private static void send() {
        busy("send", (x, a) -> x.send(a[0], a[1])).fine(1, 2, 3).outOfBounds(-1, 4, LEAST, MOST).badState(0)
            .index(3).check();
    }

    private static void berth() {
        busy("berth", (x, a) -> x.berth(a[0], a[1] == 1)).fine(1, 2).outOfBounds(-1, 4, LEAST, MOST).badState(0, 3)
            .fine(0, 1).check();
    }

    private static void berthWhereNoneIsFree() {
        Answers.Maker taken = () -> {
            IceHarbour x = Rivers.busy();
            x.build(0, 2, 1);
            x.build(0, 1, 1);
            return x;
        };
        new Refusals("berth into none, of the boats 4 and 5,", taken, (x, a) -> x.berth(a[0], true))
            .fine(1, 2).badState(4, 5).outOfBounds(6).check();
        new Refusals("berth to anchor, of the boats 4 and 5,", taken, (x, a) -> x.berth(a[0], false))
            .fine(1, 2, 4, 5).badState(0, 3).check();
    }

    private static void mendAndBoat() {
        busy("mend", (x, a) -> x.mend(a[0])).fine(1, 2).outOfBounds(-1, 4, LEAST, MOST).badState(0, 3).check();
        busy("boat", (x, a) -> x.boat(a[0], a[1])).index(4).index(12).check();
    }

    private static void lend() {
        Refusals.Call call = (x, a) -> x.lend(a[0], a[1], a[2], a[3], a[4], a[5]);
        busy("lend", call).fine(0).outOfBounds(-1, 2, LEAST, MOST).fine(1).outOfBounds(-1, 2, LEAST, MOST)
            .fine(2).outOfBounds(-1, 3, LEAST, MOST).fine(0).outOfBounds(-1, 4, LEAST, MOST)
            .fine(1, 10).badArgument(0, -1, LEAST).badState(101, MOST).fine(37, MOST).badArgument(36, LEAST).check();
        busy("lend of 10", call).fine(0).fine(1).fine(0).fine(0).fine(10).badState(11).fine(37).check();
        busy("lend of what is elsewhere", call).fine(0).fine(1).fine().badState(1).fine(0, 3).fine(1)
            .badArgument(0).fine(37).check();
    }

    private static void lendToHimself() {
        busy("lend to himself", (x, a) -> x.lend(a[0], a[0], a[1], a[2], a[3], a[4]))
            .fine().badArgument(0, 1).outOfBounds(-1, 2).index(3).index(4).fine(1).badState(101).fine(37).check();
    }

    private static void lendTillYesterday() {
        Refusals.Call call = (x, a) -> x.lend(0, 1, 0, 0, a[0], a[1]);
        Answers.Maker onDay0 = () -> {
            IceHarbour x = Rivers.three();
            x.addMerchant(0);
            x.addMerchant(0);
            x.bring(0, 0, 0, 5);
            return x;
        };
        new Refusals("lend on day 0", onDay0, call).fine(1, 5).badState(6).fine(0, MOST).badArgument(-1, LEAST).check();
        Answers.Maker onDay1 = () -> {
            IceHarbour x = onDay0.make();
            x.pass(1);
            return x;
        };
        new Refusals("lend on day 1", onDay1, call).fine(1, 5).badState(6).fine(1).badArgument(0).check();
    }

    private static void lendMoreThanThirty() {
        full("lend, a debt more than thirty,", (x, a) -> x.lend(a[0], 1, 7, a[1], a[2], a[3]))
            .fine(0, 4).badArgument(1).outOfBounds(5).index(4).fine(1).badArgument(0).fine(0).badArgument(-1).check();
    }

    /** Of the debt 2, 11 are due; the debt 0 is paid, the debt 1 broken. */
    private static void repay() {
        Refusals.Call call = (x, a) -> x.repay(a[0], a[1]);
        busy("repay", call).fine(2).outOfBounds(-1, 3, LEAST, MOST).badState(0, 1)
            .fine(0, 2).outOfBounds(-1, 3, LEAST, MOST).badState(1).check();
        Answers.Maker justEnough = () -> {
            IceHarbour x = Rivers.busy();
            x.sell(1, 0, 3, 9);
            x.sell(1, 2, 3, x.stock(1, 2, 3) - 10);
            return x;
        };
        new Refusals("repay of 11 with 11, not with 10,", justEnough, call).fine(2).fine(0).badState(2).check();
    }

    private static void debt() {
        busy("debt", (x, a) -> x.debt(a[0], a[1])).index(3).index(7).check();
    }

    private static void passAndCount() {
        busy("pass", (x, a) -> x.pass(a[0])).number(1, 200).check();
        busy("count", (x, a) -> x.count(a[0])).index(10).check();
    }

    private static void lookingAhead() {
        busy("opens", (x, a) -> x.opens(a[0])).index(2).check();
        busy("arrives", (x, a) -> x.arrives(a[0])).index(4).check();
        busy("latest", (x, a) -> x.latest(a[0], a[1])).index(3).index(3).check();
        busy("advise", (x, a) -> x.advise(a[0], a[1])).index(4).number(1, 120).check();
    }

    private static void withoutHarbours() {
        Answers.Maker none = () -> {
            IceHarbour x = new IceHarbour();
            x.addMerchant(10);
            x.addMerchant(10);
            return x;
        };
        new Refusals("setPrice, no harbour,", none, (x, a) -> x.setPrice(a[0], a[1], a[2]))
            .index(0).index(4).number(0, 50).check();
        new Refusals("harbour, no harbour,", none, (x, a) -> x.harbour(a[0], a[1])).index(0).index(8).check();
        new Refusals("leg, no harbour,", none, (x, a) -> x.leg(a[0], a[1])).index(0).index(4).check();
        new Refusals("bring, no harbour,", none, (x, a) -> x.bring(0, a[0], a[1], a[2]))
            .index(0).index(4).number(1, 100).check();
        new Refusals("sell, no harbour,", none, (x, a) -> x.sell(0, a[0], a[1], a[2]))
            .index(0).index(4).fine().badState(1).badArgument(0).check();
        new Refusals("stock, no harbour,", none, (x, a) -> x.stock(0, a[0], a[1])).index(0).index(4).check();
        new Refusals("build, no harbour,", none, (x, a) -> x.build(0, a[0], a[1])).index(0).number(1, 60).check();
        new Refusals("lend, no harbour,", none, (x, a) -> x.lend(0, a[0], a[1], 0, a[2], 0))
            .fine().badState(1).badArgument(0).index(0).fine().badState(1).badArgument(0).check();
        new Refusals("opens, no harbour,", none, (x, a) -> x.opens(a[0])).index(0).check();
        new Refusals("latest, no harbour,", none, (x, a) -> x.latest(a[0], a[1])).index(0).index(0).check();
    }

    private static void withOneHarbour() {
        Answers.Maker one = () -> {
            IceHarbour x = new IceHarbour();
            x.addHarbour(1, 1);
            x.addMerchant(10);
            x.build(0, 0, 1);
            return x;
        };
        new Refusals("leg, one harbour,", one, (x, a) -> x.leg(a[0], a[1])).index(0).index(4).check();
        new Refusals("opens, one harbour,", one, (x, a) -> x.opens(a[0])).index(0).check();
        new Refusals("harbour, one harbour,", one, (x, a) -> x.harbour(a[0], a[1])).index(1).index(8).check();
        new Refusals("send, one harbour,", one, (x, a) -> x.send(a[0], a[1])).index(1).index(1).check();
        new Refusals("latest, one harbour,", one, (x, a) -> x.latest(a[0], a[1])).index(1).index(1).check();
    }

    private static void withoutMerchants() {
        Answers.Maker none = Rivers::three;
        new Refusals("bring, no merchant,", none, (x, a) -> x.bring(a[0], a[1], a[2], a[3]))
            .index(0).index(3).index(4).number(1, 100).check();
        new Refusals("sell, no merchant,", none, (x, a) -> x.sell(a[0], a[1], a[2], a[3]))
            .index(0).index(3).index(4).fine().badState(1).badArgument(0).check();
        new Refusals("stock, no merchant,", none, (x, a) -> x.stock(a[0], a[1], a[2]))
            .index(0).index(3).index(4).check();
        new Refusals("merchant, no merchant,", none, (x, a) -> x.merchant(a[0], a[1])).index(0).index(6).check();
        new Refusals("build, no merchant,", none, (x, a) -> x.build(a[0], a[1], a[2]))
            .index(0).index(3).number(1, 60).check();
        new Refusals("lend, no merchant,", none, (x, a) -> x.lend(a[0], a[1], a[2], 0, a[3], 0))
            .index(0).index(0).index(3).fine().badState(1).badArgument(0).check();
    }

    private static void withoutBoats() {
        Answers.Maker none = () -> {
            IceHarbour x = Rivers.three();
            x.addMerchant(10);
            return x;
        };
        new Refusals("load, no boat,", none, (x, a) -> x.load(a[0], a[1], a[2]))
            .index(0).index(4).fine().badState(1).badArgument(0, 61, -61).check();
        new Refusals("send, no boat,", none, (x, a) -> x.send(a[0], a[1])).index(0).index(3).check();
        new Refusals("berth, no boat,", none, (x, a) -> x.berth(a[0], a[1] == 1)).index(0).fine(0, 1).check();
        new Refusals("mend, no boat,", none, (x, a) -> x.mend(a[0])).index(0).check();
        new Refusals("boat, no boat,", none, (x, a) -> x.boat(a[0], a[1])).index(0).index(12).check();
        new Refusals("arrives, no boat,", none, (x, a) -> x.arrives(a[0])).index(0).check();
        new Refusals("advise, no boat,", none, (x, a) -> x.advise(a[0], a[1])).index(0).number(1, 120).check();
    }

    private static void withoutDebts() {
        Answers.Maker none = () -> {
            IceHarbour x = Rivers.three();
            x.addMerchant(10);
            return x;
        };
        new Refusals("repay, no debt,", none, (x, a) -> x.repay(a[0], a[1])).index(0).index(3).check();
        new Refusals("debt, no debt,", none, (x, a) -> x.debt(a[0], a[1])).index(0).index(7).check();
    }
}
