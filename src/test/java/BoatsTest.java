/** Promises 12 to 17: build, load, send, berth, mend, boat. */
public final class BoatsTest {
    public static void main(String[] args) {
        build();
        load();
        loadBeforeItSetsOut();
        send();
        sendFromALeg();
        berth();
        mend();
        boat();
        sunkBoat();
        Check.end();
    }

    private static void build() {
        IceHarbour x = Rivers.three();
        x.addMerchant(0);
        x.addMerchant(0);
        Check.due("build(1, 2, 60)", x.build(1, 2, 60), 0);
        expect(x, 0, 1, 20, 60, 0, 2, 2, 0, 0, 0, 0, 0, 0);
        for (int k = 1; k < 10; k++) {
            Check.due("build(0, 0, 1)", x.build(0, 0, 1), k);
        }
    }

    private static void load() {
        IceHarbour x = Rivers.three();
        x.addMerchant(0);
        x.addMerchant(0);
        x.build(0, 0, 60);
        x.bring(0, 0, 1, 100);
        x.bring(0, 0, 3, 5);
        x.bring(1, 0, 2, 9);
        Check.due("load(0, 1, 50)", x.load(0, 1, 50), 50);
        Check.due("load(0, 3, 5)", x.load(0, 3, 5), 55);
        Check.due("what is left at the harbour", x.stock(0, 0, 1), 50);
        Check.due("of the other good", x.stock(0, 0, 3), 0);
        Check.due("load(0, 0, 1) of a good that is not on it yet", x.bring(0, 0, 0, 1) + x.load(0, 0, 1), 57);
        Check.due("load(0, 0, -1)", x.load(0, 0, -1), 55);
        Check.badState("goods of another merchant", x, () -> x.load(0, 2, 1));
        Check.badState("no room", x, () -> x.load(0, 1, 6));
        Check.due("just room", x.load(0, 1, 5), 60);
        Check.due("load(0, 1, -55)", x.load(0, 1, -55), 5);
        Check.due("what is back at the harbour", x.stock(0, 0, 1), 100);
        Check.badState("unloads what is not on it", x, () -> x.load(0, 1, -1));
        Check.badState("unloads more than is on it", x, () -> x.load(0, 3, -6));
        Check.due("load(0, 1, 55)", x.load(0, 1, 55), 60);
        Check.due("unloads from a full boat", x.load(0, 3, -5), 55);
        Check.due("in a berth", x.berth(0, true), 1);
        Check.due("loads in a berth", x.load(0, 3, 2), 57);
        Check.due("load(0, 1, -55)", x.load(0, 1, -55), 2);
        Check.due("load(0, 1, 58)", x.load(0, 1, 58), 60);
        Check.due("load(0, 3, -1)", x.load(0, 3, -1), 59);
        x.send(0, 2);
        x.pass(5);
        Check.due("load(0, 1, -58) at the goal", x.load(0, 1, -58), 1);
        Check.due("stock at the goal", x.stock(0, 2, 1), 58);
        Check.badState("what is at the other harbour", x, () -> x.load(0, 1, 59));
    }

    private static void loadBeforeItSetsOut() {
        IceHarbour x = Rivers.three();
        x.addMerchant(0);
        x.build(0, 0, 60);
        x.bring(0, 0, 0, 100);
        x.load(0, 0, 10);
        x.send(0, 1);
        Check.due("loads before it has set out", x.load(0, 0, 1), 11);
        x.pass(1);
        Check.badState("loads on a leg", x, () -> x.load(0, 0, 1));
        Check.badState("unloads on a leg", x, () -> x.load(0, 0, -1));
    }

    private static void send() {
        IceHarbour x = Rivers.three();
        x.addMerchant(0);
        x.build(0, 0, 1);
        x.build(0, 2, 1);
        x.build(0, 1, 1);
        Check.due("send(0, 2)", x.send(0, 2), 5);
        Check.due("send(0, 1)", x.send(0, 1), 3);
        Check.due("send(0, 0)", x.send(0, 0), 0);
        Check.due("send(1, 0)", x.send(1, 0), 10);
        Check.due("send(1, 1)", x.send(1, 1), 4);
        Check.due("send(2, 0)", x.send(2, 0), 6);
        Check.due("its goal", x.boat(2, 5), 0);
        Check.due("send(2, 2)", x.send(2, 2), 2);
        Check.due("its goal then", x.boat(2, 5), 2);
        Check.due("it is where it was", x.boat(2, 4), 1);
    }

    private static void sendFromALeg() {
        IceHarbour x = Rivers.three();
        x.addMerchant(0);
        x.build(0, 0, 1);
        x.send(0, 2);
        x.pass(1);
        Check.due("back from the leg 0", x.send(0, 0), 2 + 6);
        Check.due("to its end", x.send(0, 1), 2);
        Check.due("down from it", x.send(0, 2), 2 + 2);
        x.send(0, 0);
        x.pass(1);
        Check.due("it goes on to the end", x.boat(0, 4), 1);
        Check.due("it is on the leg", x.boat(0, 3), 2);
        x.pass(1);
        Check.due("it lies there", x.boat(0, 3), 0);
        Check.due("with another goal", x.boat(0, 5), 0);
        x.pass(1);
        Check.due("it goes back", x.boat(0, 4), 0);
        Check.due("twice as long", x.boat(0, 6), 5);
        Check.due("send(0, 2) going up", x.send(0, 2), 5 + 3 + 2);
    }

    private static void berth() {
        IceHarbour x = Rivers.three();
        x.addMerchant(100);
        for (int k = 0; k < 4; k++) {
            x.build(0, 0, 1);
        }
        x.build(0, 1, 1);
        Check.due("at anchor already", x.berth(0, false), 2);
        Check.due("berth(0, true)", x.berth(0, true), 1);
        Check.due("berth(0, true) again", x.berth(0, true), 1);
        Check.due("berth(2, true)", x.berth(2, true), 0);
        Check.due("in the last one already", x.berth(2, true), 0);
        Check.badState("none is free", x, () -> x.berth(1, true));
        Check.due("at anchor beside full berths", x.berth(1, false), 0);
        Check.badState("a harbour without berths", x, () -> x.berth(4, true));
        Check.due("at anchor there", x.berth(4, false), 0);
        Check.due("berth(0, false)", x.berth(0, false), 1);
        Check.due("it lies at anchor", x.boat(0, 3), 0);
        Check.due("berth(1, true)", x.berth(1, true), 0);
        Check.due("it is in a berth", x.boat(1, 3), 1);
        x.send(1, 1);
        x.pass(1);
        Check.due("one that has set out has left its berth", x.berth(3, true), 0);
        Check.badState("into a berth on a leg", x, () -> x.berth(1, true));
        Check.badState("to anchor on a leg", x, () -> x.berth(1, false));
    }

    private static void mend() {
        IceHarbour x = Rivers.three();
        Rivers.warm(x, 0, 39, 0);
        Rivers.warm(x, 0, 3, -6);
        x.addMerchant(17);
        x.addMerchant(0);
        x.build(0, 0, 1);
        x.build(1, 0, 1);
        x.build(0, 2, 1);
        x.pass(10);
        Check.due("hull behind seven days of thick ice", x.boat(0, 1), 13);
        Check.due("mend(0) with 17 coins", x.mend(0), 18);
        Check.due("coins that are left", x.merchant(0, 0), 2);
        Check.due("mend(0) with 2 coins", x.mend(0), 18);
        Check.due("they are left", x.merchant(0, 0), 2);
        Check.due("mend(1) without coins", x.mend(1), 13);
        x.bring(1, 0, 0, 100);
        x.setPrice(0, 0, 1);
        x.sell(1, 0, 0, 100);
        x.berth(1, true);
        Check.due("mend(1) in a berth", x.mend(1), 20);
        Check.due("it pays no more than is missing", x.merchant(1, 0), 79);
        Check.due("mend(1) when it is whole", x.mend(1), 20);
        Check.due("for nothing", x.merchant(1, 0), 79);
        Rivers.warm(x, 10, 12, 9);
        x.send(1, 1);
        x.pass(1);
        Check.due("on a leg", x.boat(1, 3), 2);
        Check.badState("mends on a leg", x, () -> x.mend(1));
    }

    private static void boat() {
        IceHarbour x = Rivers.three();
        x.addMerchant(9);
        x.addMerchant(9);
        x.build(1, 1, 33);
        for (int good = 0; good < 4; good++) {
            x.bring(1, 1, good, 9);
            x.load(0, good, good + 2);
        }
        expect(x, 0, 1, 20, 33, 0, 1, 1, 0, 14, 2, 3, 4, 5);
        x.send(0, 2);
        expect(x, 0, 1, 20, 33, 0, 1, 2, 0, 14, 2, 3, 4, 5);
        x.pass(1);
        expect(x, 0, 1, 20, 33, 2, 2, 2, 1, 14, 2, 3, 4, 5);
        x.pass(1);
        expect(x, 0, 1, 20, 33, 0, 2, 2, 0, 14, 2, 3, 4, 5);
        x.berth(0, true);
        expect(x, 0, 1, 20, 33, 1, 2, 2, 0, 14, 2, 3, 4, 5);
        x.send(0, 0);
        x.pass(1);
        expect(x, 0, 1, 20, 33, 2, 1, 0, 3, 14, 2, 3, 4, 5);
    }

    private static void sunkBoat() {
        IceHarbour x = Rivers.three();
        x.addMerchant(100);
        x.addMerchant(100);
        x.build(0, 0, 33);
        x.build(1, 1, 12);
        x.bring(0, 0, 2, 9);
        x.load(0, 2, 9);
        x.send(0, 2);
        x.pass(1);
        Rivers.warm(x, 0, 39, -9);
        x.pass(21);
        Check.due("a point of hull is left", x.boat(0, 1), 1);
        expect(x, 0, 0, 1, 33, 2, 1, 2, 1, 9, 0, 0, 9, 0);
        Check.due("pass(1) sinks both", x.pass(1), 2);
        expect(x, 0, 0, 0, 33, 3, -1, 2, 0, 0, 0, 0, 0, 0);
        expect(x, 1, 1, 0, 12, 3, -1, 1, 0, 0, 0, 0, 0, 0);
        Check.badState("sends a sunk one", x, () -> x.send(0, 0));
        Check.badState("loads on a sunk one", x, () -> x.load(0, 2, 1));
        Check.badState("unloads a sunk one", x, () -> x.load(0, 2, -1));
        Check.badState("berths a sunk one", x, () -> x.berth(0, true));
        Check.badState("anchors a sunk one", x, () -> x.berth(0, false));
        Check.badState("mends a sunk one", x, () -> x.mend(0));
        Check.due("it is at no harbour", x.harbour(0, 2) + x.harbour(1, 2) + x.harbour(2, 2), 0);
        Check.due("and on no leg", x.leg(0, 3) + x.leg(1, 3), 0);
        for (int k = 2; k < 10; k++) {
            Check.due("build beside sunk ones", x.build(0, 0, 1), k);
        }
        Check.badState("sunk ones count among the ten", x, () -> x.build(0, 0, 1));
    }

    private static void expect(IceHarbour x, int boat, int... due) {
        for (int what = 0; what < due.length; what++) {
            Check.due("boat(" + boat + ", " + what + ") on day " + x.count(0), x.boat(boat, what), due[what]);
        }
    }
}
