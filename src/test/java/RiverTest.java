/** Promises 2 to 6: setWarm, addHarbour, setPrice, harbour, leg. */
public final class RiverTest {
    public static void main(String[] args) {
        setWarm();
        frostMakesIce();
        addHarbour();
        setPrice();
        harbour();
        iceOfHarbours();
        leg();
        Check.end();
    }

    private static void setWarm() {
        IceHarbour x = new IceHarbour();
        Check.due("setWarm(0, -9)", x.setWarm(0, -9), 4);
        Check.due("setWarm(0, 9)", x.setWarm(0, 9), -9);
        Check.due("setWarm(0, 0)", x.setWarm(0, 0), 9);
        Check.due("setWarm(39, 1)", x.setWarm(39, 1), 4);
        Check.due("setWarm(39, 1) again", x.setWarm(39, 1), 1);
        Check.due("setWarm(38, 4)", x.setWarm(38, 4), 4);
    }

    private static void frostMakesIce() {
        IceHarbour x = Rivers.line(2, 1, 0);
        Rivers.warm(x, 0, 39, 0);
        x.setWarm(0, -7);
        x.setWarm(1, -4);
        x.setWarm(3, 2);
        x.setWarm(4, 9);
        Rivers.warm(x, 5, 11, -9);
        int[] due = {7, 11, 11, 7, 0, 9, 18, 27, 36, 45, 54, 60};
        for (int day = 0; day < due.length; day++) {
            x.pass(1);
            Check.due("the ice behind day " + day, x.leg(0, 1), due[day]);
        }
        x.pass(28);
        Check.due("the ice of day 40 is that of day 0", x.leg(0, 1), 60);
        x.setWarm(0, 3);
        x.pass(1);
        Check.due("the ice behind day 40", x.leg(0, 1), 54);
    }

    private static void addHarbour() {
        IceHarbour x = new IceHarbour();
        Check.due("addHarbour(5, 5)", x.addHarbour(5, 5), 0);
        Check.due("no leg with one harbour", x.count(9), 0);
        for (int k = 1; k < 8; k++) {
            Check.due("addHarbour(" + (k + 2) + ", 0)", x.addHarbour(k + 2, 0), k);
        }
        Check.due("harbours", x.count(1), 8);
        for (int k = 0; k < 7; k++) {
            Check.due("days of leg " + k, x.leg(k, 0), k + 3);
        }
    }

    private static void setPrice() {
        IceHarbour x = Rivers.three();
        Check.due("setPrice(2, 3, 50)", x.setPrice(2, 3, 50), 0);
        Check.due("setPrice(2, 3, 0)", x.setPrice(2, 3, 0), 50);
        Check.due("setPrice(0, 0, 7)", x.setPrice(0, 0, 7), 0);
        Check.due("setPrice(0, 0, 8)", x.setPrice(0, 0, 8), 7);
        Check.due("the price of another good", x.harbour(0, 5), 0);
        Check.due("the price at another harbour", x.harbour(1, 4), 0);
    }

    private static void harbour() {
        IceHarbour x = Rivers.three();
        x.addMerchant(100);
        x.build(0, 0, 1);
        x.build(0, 0, 1);
        x.build(0, 0, 1);
        x.build(0, 2, 1);
        x.berth(1, true);
        for (int good = 0; good < 4; good++) {
            x.setPrice(0, good, 10 + good);
        }
        int[] due = {2, 1, 3, 0, 10, 11, 12, 13};
        for (int what = 0; what < due.length; what++) {
            Check.due("harbour(0, " + what + ")", x.harbour(0, what), due[what]);
        }
        x.send(0, 2);
        x.send(1, 2);
        x.pass(1);
        Check.due("no berth is taken when the boat has set out", x.harbour(0, 1), 0);
        Check.due("boats on a leg are not there", x.harbour(0, 2), 1);
        Check.due("nor where they go to", x.harbour(1, 2), 0);
    }

    private static void iceOfHarbours() {
        IceHarbour x = new IceHarbour();
        Rivers.warm(x, 0, 39, -3);
        x.addHarbour(1, 0);
        x.pass(2);
        Check.due("ice with one harbour alone", x.harbour(0, 3), 0);
        x.addHarbour(1, 0);
        Check.due("a new leg has no ice", x.leg(0, 1), 0);
        x.pass(2);
        Check.due("ice of the last harbour is that above", x.harbour(1, 3), 6);
        x.addHarbour(1, 0);
        Check.due("it is that below when there is a leg below", x.harbour(1, 3), 0);
        x.pass(1);
        Check.due("ice of the harbour 0", x.harbour(0, 3), 9);
        Check.due("ice of the harbour 1", x.harbour(1, 3), 3);
        Check.due("ice of the harbour 2", x.harbour(2, 3), 3);
    }

    private static void leg() {
        IceHarbour x = Rivers.three();
        Rivers.warm(x, 0, 39, -5);
        x.addMerchant(0);
        x.build(0, 0, 1);
        x.build(0, 2, 1);
        x.send(0, 1);
        x.send(1, 0);
        Check.due("leg(0, 0)", x.leg(0, 0), 3);
        Check.due("leg(1, 0)", x.leg(1, 0), 2);
        Check.due("leg(0, 3)", x.leg(0, 3), 0);
        x.pass(2);
        Check.due("ice of 10", x.leg(0, 1), 10);
        Check.due("is open", x.leg(0, 2), 1);
        Check.due("boats on the leg 0", x.leg(0, 3), 1);
        Check.due("boats on the leg 1", x.leg(1, 3), 1);
        x.setWarm(2, -1);
        x.pass(1);
        Check.due("ice of 11", x.leg(1, 1), 11);
        Check.due("is not open", x.leg(1, 2), 0);
        Check.due("none of them is open", x.count(9), 0);
    }
}
