/** Rivers that several tests start with. */
final class Rivers {
    private Rivers() {
    }

    /** Three harbours with legs of 3 and 2 days and with 2, 0 and 1 berths; warm on all days. */
    static IceHarbour three() {
        IceHarbour x = new IceHarbour();
        x.addHarbour(1, 2);
        x.addHarbour(3, 0);
        x.addHarbour(2, 1);
        return x;
    }

    static IceHarbour line(int harbours, int legDays, int berths) {
        IceHarbour x = new IceHarbour();
        for (int k = 0; k < harbours; k++) {
            x.addHarbour(legDays, berths);
        }
        return x;
    }

    /** As warm on all of these days of the table. */
    static void warm(IceHarbour x, int firstDay, int lastDay, int warm) {
        for (int day = firstDay; day <= lastDay; day++) {
            x.setWarm(day, warm);
        }
    }
}
