/** Rivers that several tests start with. */
final class Rivers {
    private Rivers() {
    }

    /** Three harbours with legs of 3 and 2 days and with 2, 0 and 1 berths; warm on all days. */
    static IceHarbour three() {
        IceHarbour x = new IceHarbour();
        x.addHarbour(1, 2);
        x.addHarbour(3, 0);
        x.addHarbour(2, 1);
        return x;
    }

    static IceHarbour line(int harbours, int legDays, int berths) {
        IceHarbour x = new IceHarbour();
        for (int k = 0; k < harbours; k++) {
            x.addHarbour(legDays, berths);
        }
        return x;
    }

    /** As warm on all of these days of the table. */
    static void warm(IceHarbour x, int firstDay, int lastDay, int warm) {
        for (int day = firstDay; day <= lastDay; day++) {
            x.setWarm(day, warm);
        }
    }

    /**
     * On day 37, with three harbours: the boat 0 is sunk, 1 lies at anchor in the harbour 0 with 10 of the good 0 and
     * room for 20 more, 2 is in a berth in the harbour 2, 3 is on the leg 1 up the river. The debt 0 is paid, 1 broken,
     * 2 open, 11 of the good 3 that merchant 1 owes. Both merchants have at least 10 of the goods 0 and 3 at the
     * harbours 0 and 2, the merchant 0 just 10 of the good 0 at the harbour 0. Frost comes on day 40.
     */
    static IceHarbour busy() {
        IceHarbour x = three();
        warm(x, 0, 24, -9);
        x.addMerchant(40);
        x.addMerchant(60);
        x.build(0, 0, 30);
        x.pass(36);
        for (int corner = 0; corner < 8; corner++) {
            x.bring(corner / 4, corner / 2 % 2 * 2, corner % 2 * 3, 20);
        }
        x.setPrice(0, 0, 7);
        x.setPrice(2, 3, 5);
        x.setPrice(1, 2, 50);
        x.build(0, 0, 30);
        x.load(1, 0, 10);
        x.build(1, 2, 40);
        x.berth(2, true);
        x.build(1, 2, 20);
        x.load(3, 3, 5);
        x.send(3, 0);
        x.lend(0, 1, 2, 0, 10, 36);
        x.bring(1, 1, 2, 6);
        x.lend(1, 0, 1, 2, 6, 36);
        x.sell(0, 1, 2, 2);
        x.lend(0, 1, 2, 3, 10, 45);
        x.pass(1);
        return x;
    }

    /**
     * As many of all as there can be: the leg k takes k + 1 days, each harbour has a berth, the boat k lies in the
     * harbour k % 8 and belongs to the merchant k % 5, like the rest of 60 of the good 3 that were brought to the
     * harbour 7; the debt k, of one of them, is due on day k, and each merchant owes six.
     */
    static IceHarbour full() {
        IceHarbour x = new IceHarbour();
        for (int k = 0; k < 8; k++) {
            x.addHarbour(Math.max(1, k), 1);
        }
        for (int k = 0; k < 5; k++) {
            x.addMerchant(50);
            x.bring(k, 7, 3, 60);
        }
        for (int k = 0; k < 10; k++) {
            x.build(k % 5, k % 8, 60);
        }
        for (int k = 0; k < 30; k++) {
            x.lend(k % 5, (k + 1) % 5, 7, 3, 1, k);
        }
        return x;
    }
}
