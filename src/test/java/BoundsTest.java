/** The least and the greatest number that each call takes or tells; RefusedTest has the next ones beyond them. */
public final class BoundsTest {
    private static final int MOST = Integer.MAX_VALUE;

    public static void main(String[] args) {
        dayOfTheTable();
        howWarm();
        daysOfALeg();
        firstLegIsOfNoMatter();
        berthsOfAHarbour();
        prices();
        coinsOfAMerchant();
        goodsThatAreBrought();
        goodsThatAreSold();
        roomOfABoat();
        goodsThatAreLoaded();
        wayOfABoat();
        pointsThatAreMended();
        mendsNoMoreThanIsMissing();
        goodsThatAreLent();
        tenthIsCut();
        dayOfADebt();
        goodsThatAreRepaid();
        daysThatPass();
        opensNowOrIn120Days();
        arrivesNowOrIn200Days();
        arrivesBeforeItSinks();
        waitsNoneOr60Days();
        waitsOnTheOnlyOpenDay();
        advisesFor1Or120Days();
        advisesTheSmallestOfSeveral();
        meanOfSome();
        callNumber512();
        Check.end();
    }

    /** setWarm: "a day of the table, 0 to 39". */
    private static void dayOfTheTable() {
        IceHarbour x = new IceHarbour();
        Check.due("day 0 was", x.setWarm(0, 1), 4);
        Check.due("day 39 was", x.setWarm(39, 2), 4);
        Check.due("day 1 was", x.setWarm(1, 3), 4);
        Check.due("day 38 was", x.setWarm(38, 3), 4);
        Check.due("day 0 was then", x.setWarm(0, 0), 1);
        Check.due("day 39 was then", x.setWarm(39, 0), 2);
    }

    /** "how warm it is, -9 to 9": the greatest frost and the greatest warmth, and what they do. */
    private static void howWarm() {
        IceHarbour x = Rivers.line(2, 1, 0);
        Rivers.warm(x, 0, 3, -9);
        x.setWarm(4, 9);
        x.setWarm(5, -1);
        x.setWarm(6, 0);
        x.setWarm(7, 1);
        int[] ice = {9, 18, 27, 36, 18, 19, 19, 17};
        for (int day = 0; day < ice.length; day++) {
            x.pass(1);
            Check.due("ice behind day " + day, x.leg(0, 1), ice[day]);
        }
        Check.due("the greatest frost was", x.setWarm(0, 9), -9);
        Check.due("the greatest warmth was", x.setWarm(0, 0), 9);
    }

    /** "it takes 1 to 9 days down, and twice as many up". */
    private static void daysOfALeg() {
        IceHarbour x = new IceHarbour();
        x.addHarbour(1, 0);
        Check.due("the leg of 1 day leads to", x.addHarbour(1, 0), 1);
        Check.due("the leg of 9 days leads to", x.addHarbour(9, 0), 2);
        Check.due("its days", x.leg(0, 0), 1);
        Check.due("the other one's", x.leg(1, 0), 9);
        x.addMerchant(0);
        int[] from = {0, 1, 1, 2};
        int[] to = {1, 0, 2, 1};
        int[] days = {1, 2, 9, 18};
        for (int k = 0; k < 4; k++) {
            x.build(0, from[k], 1);
            Check.due("days from " + from[k] + " to " + to[k], x.send(k, to[k]), days[k]);
        }
        for (int day = 1; day <= 18; day++) {
            x.pass(1);
            for (int k = 0; k < 4; k++) {
                Check.due("boat " + k + " is on its leg behind " + day + " days", x.boat(k, 3), day < days[k] ? 2 : 0);
                Check.due("its days to go", x.boat(k, 6), Math.max(0, days[k] - day));
                Check.due("where it goes to, or is", x.boat(k, 4), to[k]);
            }
        }
    }

    /** addHarbour: "(of no matter for the first one)". */
    private static void firstLegIsOfNoMatter() {
        Answers.areAlike("a river with another first leg", Answers.of(() -> firstLeg(9)),
            Answers.of(() -> firstLeg(1)));
    }

    private static IceHarbour firstLeg(int leg) {
        IceHarbour x = new IceHarbour();
        x.addHarbour(leg, 1);
        x.addHarbour(2, 1);
        x.addMerchant(5);
        x.build(0, 1, 1);
        x.send(0, 0);
        return x;
    }

    /** "Each harbour has 0 to 5 berths". */
    private static void berthsOfAHarbour() {
        IceHarbour x = new IceHarbour();
        x.addHarbour(1, 0);
        x.addHarbour(1, 5);
        x.addMerchant(0);
        Check.due("no berths", x.harbour(0, 0), 0);
        Check.due("five berths", x.harbour(1, 0), 5);
        for (int k = 0; k < 6; k++) {
            x.build(0, 1, 1);
        }
        for (int k = 0; k < 5; k++) {
            Check.due("free beside " + (k + 1), x.berth(k, true), 4 - k);
        }
        Check.badState("a sixth one", x, () -> x.berth(5, true));
        Check.due("five are taken", x.harbour(1, 1), 5);
    }

    /** "for each good, 0 to 3, a price, 0 to 50 (0, at first)". */
    private static void prices() {
        IceHarbour x = Rivers.three();
        x.addMerchant(0);
        for (int good = 0; good < 4; good++) {
            Check.due("the price of " + good + " at first", x.setPrice(2, good, 50), 0);
            Check.due("the greatest price", x.harbour(2, 4 + good), 50);
        }
        x.bring(0, 2, 3, 2);
        Check.due("sells at 50", x.sell(0, 2, 3, 1), 50);
        Check.due("the price was", x.setPrice(2, 3, 0), 50);
        Check.due("sells at 0", x.sell(0, 2, 3, 1), 50);
        Check.due("the price was 0", x.setPrice(2, 3, 1), 0);
        Check.due("the other one is still", x.harbour(2, 6), 50);
    }

    /** addMerchant: "coins is not 0 to 5000"; "each has coins, 0 or more", here more than that. */
    private static void coinsOfAMerchant() {
        IceHarbour x = Rivers.three();
        Check.due("with 5000", x.addMerchant(5000), 0);
        Check.due("with 0", x.addMerchant(0), 1);
        Check.due("his coins", x.merchant(0, 0), 5000);
        Check.due("and his", x.merchant(1, 0), 0);
        x.setPrice(0, 0, 50);
        for (int k = 1; k <= 50; k++) {
            x.bring(0, 0, 0, 100);
            Check.due("5000 more, " + k + " times", x.sell(0, 0, 0, 100), 5000 + 5000 * k);
        }
        Check.due("coins of all", x.count(8), 255000);
    }

    /** bring: "many is not 1 to 100"; nothing bounds how many there are. */
    private static void goodsThatAreBrought() {
        IceHarbour x = Rivers.three();
        x.addMerchant(0);
        Check.due("brings 1", x.bring(0, 0, 0, 1), 1);
        Check.due("brings 100", x.bring(0, 0, 0, 100), 101);
        for (int k = 2; k <= 40; k++) {
            Check.due("100 more", x.bring(0, 0, 0, 100), 1 + 100 * k);
        }
        Check.due("all of them", x.merchant(0, 4), 4001);
    }

    /** sell: "many is less than 1", "this one has not so many there": one, more than 100, and all that he has. */
    private static void goodsThatAreSold() {
        IceHarbour x = Rivers.three();
        x.addMerchant(0);
        x.setPrice(0, 1, 2);
        x.bring(0, 0, 1, 100);
        x.bring(0, 0, 1, 100);
        Check.due("sells 1", x.sell(0, 0, 1, 1), 2);
        Check.due("sells 198", x.sell(0, 0, 1, 198), 398);
        Check.due("one is left", x.stock(0, 0, 1), 1);
        Check.due("sells the last one", x.sell(0, 0, 1, 1), 400);
        Check.due("none is left", x.stock(0, 0, 1), 0);
    }

    /** "room for 1 to 60 goods". */
    private static void roomOfABoat() {
        IceHarbour x = Rivers.three();
        x.addMerchant(0);
        x.bring(0, 0, 0, 100);
        x.build(0, 0, 1);
        x.build(0, 0, 60);
        Check.due("the least room", x.boat(0, 2), 1);
        Check.due("the greatest room", x.boat(1, 2), 60);
        Check.due("fills the one", x.load(0, 0, 1), 1);
        Check.badState("one more", x, () -> x.load(0, 0, 1));
        Check.due("fills the other one", x.load(1, 0, 60), 60);
        Check.badState("one more on that", x, () -> x.load(1, 0, 1));
    }

    /** load: "many is 0, or not -60 to 60", "how many are loaded; less than 0: so many are unloaded". */
    private static void goodsThatAreLoaded() {
        IceHarbour x = Rivers.three();
        x.addMerchant(0);
        x.bring(0, 0, 3, 60);
        x.build(0, 0, 60);
        Check.due("loads 60", x.load(0, 3, 60), 60);
        Check.due("none is left ashore", x.stock(0, 0, 3), 0);
        Check.due("unloads 60", x.load(0, 3, -60), 0);
        Check.due("all are ashore", x.stock(0, 0, 3), 60);
        Check.due("loads 1", x.load(0, 3, 1), 1);
        Check.due("unloads 1", x.load(0, 3, -1), 0);
        Check.due("all are ashore again", x.stock(0, 0, 3), 60);
    }

    /** send: none, the greatest way down and up, and none from a leg but the days that it has to go. */
    private static void wayOfABoat() {
        IceHarbour x = Rivers.line(8, 9, 0);
        x.addMerchant(0);
        x.build(0, 0, 1);
        x.build(0, 7, 1);
        Check.due("to where it is", x.send(0, 0), 0);
        Check.due("down all legs", x.send(0, 7), 63);
        Check.due("up all legs", x.send(1, 0), 126);
        x.pass(1);
        Check.due("to the end of the leg down", x.send(0, 1), 8);
        Check.due("to the end of the leg up", x.send(1, 6), 17);
        x.pass(7);
        Check.due("with a day to go", x.send(0, 1), 1);
        Check.due("with a day to go, and back", x.send(0, 0), 1 + 18);
        x.pass(1);
        Check.due("with none", x.send(0, 1), 0);
    }

    /** A river with a boat of a merchant that the ice has left with so much hull, and as many coins. */
    private static IceHarbour bitten(int hull, int coins) {
        IceHarbour x = Rivers.line(2, 1, 1);
        Rivers.warm(x, 0, 2, -9);
        Rivers.warm(x, 3, 39, 0);
        x.addMerchant(coins);
        x.build(0, 0, 1);
        x.pass(2);
        if (hull < 20) {
            x.pass(20 - hull);
        }
        return x;
    }

    /** mend: "3 coins for each point of hull that is missing, as far as there are coins for whole points". */
    private static void pointsThatAreMended() {
        int[] coins = {0, 2, 3, 5, 6, 56, 57, 58};
        int[] hulls = {1, 1, 2, 2, 3, 19, 20, 20};
        int[] left = {0, 2, 0, 2, 0, 2, 0, 1};
        for (int k = 0; k < coins.length; k++) {
            IceHarbour x = bitten(1, coins[k]);
            Check.due("the least hull", x.boat(0, 1), 1);
            Check.due("hull with " + coins[k] + " coins", x.mend(0), hulls[k]);
            Check.due("coins that are left of " + coins[k], x.merchant(0, 0), left[k]);
        }
    }

    /** "a hull, 0 to 20": a whole boat takes no coin, one with 19 takes 3. */
    private static void mendsNoMoreThanIsMissing() {
        IceHarbour x = bitten(20, 5000);
        Check.due("a whole one", x.mend(0), 20);
        Check.due("costs nothing", x.merchant(0, 0), 5000);
        IceHarbour y = bitten(19, 5000);
        Check.due("one with 19", y.boat(0, 1), 19);
        Check.due("is whole then", y.mend(0), 20);
        Check.due("costs a point", y.merchant(0, 0), 4997);
        Check.due("and is whole still", y.mend(0), 20);
        Check.due("for nothing", y.merchant(0, 0), 4997);
    }

    private static IceHarbour market() {
        IceHarbour x = Rivers.three();
        x.addMerchant(0);
        x.addMerchant(0);
        x.bring(0, 1, 2, 100);
        return x;
    }

    /** lend: "many is less than 1", "the one has not so many there": one, and all that he has. */
    private static void goodsThatAreLent() {
        IceHarbour x = market();
        Check.due("lends 1", x.lend(0, 1, 1, 2, 1, 0), 0);
        Check.due("lends all", x.lend(0, 1, 1, 2, 99, 0), 1);
        Check.due("the one has none", x.stock(0, 1, 2), 0);
        Check.due("the other one has all", x.stock(1, 1, 2), 100);
    }

    /** lend: "a tenth more (cut) is due". */
    private static void tenthIsCut() {
        int[] lent = {1, 9, 10, 11, 19, 20, 29, 99, 100};
        int[] due = {1, 9, 11, 12, 20, 22, 31, 108, 110};
        for (int k = 0; k < lent.length; k++) {
            IceHarbour x = market();
            x.lend(0, 1, 1, 2, lent[k], 0);
            Check.due("due for " + lent[k], x.debt(0, 4), due[k]);
        }
    }

    /** lend: "day is earlier than today": today, tomorrow, and the last day of all ints. */
    private static void dayOfADebt() {
        IceHarbour x = market();
        x.pass(7);
        x.lend(0, 1, 1, 2, 1, 7);
        x.lend(0, 1, 1, 2, 1, 8);
        x.lend(0, 1, 1, 2, 1, MOST);
        Check.due("open today", x.count(7), 3);
        Check.due("the day of the third one", x.debt(2, 5), MOST);
        x.pass(1);
        Check.due("open behind the day 7", x.count(7), 2);
        Check.due("the first one is paid", x.debt(0, 6), 1);
        x.pass(1);
        Check.due("open behind the day 8", x.count(7), 1);
        x.pass(200);
        Check.due("open still", x.debt(2, 6), 0);
    }

    /** repay: "the debtor has not so many there": just as many as are due. */
    private static void goodsThatAreRepaid() {
        IceHarbour x = market();
        x.lend(0, 1, 1, 2, 10, 5);
        x.bring(1, 0, 2, 10);
        Check.badState("10 of 11", x, () -> x.repay(0, 0));
        Check.badState("10 of 11, where it was lent", x, () -> x.repay(0, 1));
        x.bring(1, 0, 2, 1);
        Check.due("11 of 11", x.repay(0, 0), 11);
        Check.due("none is left to the debtor", x.stock(1, 0, 2), 0);
        Check.due("the lender has them", x.stock(0, 0, 2), 11);
    }

    /** pass: "days is not 1 to 200". */
    private static void daysThatPass() {
        IceHarbour x = Rivers.three();
        x.pass(1);
        Check.due("behind a day", x.count(0), 1);
        x.pass(200);
        Check.due("behind 200 days more", x.count(0), 201);
    }

    /** On day 40, with ice of 60 on the leg; neither frost nor warmth from then on. */
    private static IceHarbour frozen(int berths) {
        IceHarbour x = Rivers.line(2, 1, berths);
        Rivers.warm(x, 0, 39, -9);
        x.pass(40);
        Rivers.warm(x, 0, 39, 0);
        return x;
    }

    /** opens: "0 if it is now, at most 120; -1 if not by then". The day 160 is the 121st one from the day 40 on. */
    private static void opensNowOrIn120Days() {
        IceHarbour x = frozen(0);
        Check.due("never", x.opens(0), -1);
        x.setWarm(0, 8);
        Check.due("behind 121 days", x.opens(0), -1);
        x.pass(1);
        Check.due("behind 120 days", x.opens(0), 120);
        x.pass(1);
        Check.due("behind 119 days", x.opens(0), 119);
        x.pass(118);
        Check.due("ice of 12", x.leg(0, 1), 12);
        Check.due("behind a day", x.opens(0), 1);
        x.pass(1);
        Check.due("now", x.opens(0), 0);
        x.setWarm(1, -6);
        Check.due("now with ice of 0", x.opens(0), 0);
        x.pass(1);
        x.setWarm(2, -4);
        x.pass(1);
        Check.due("now with ice of 10", x.opens(0), 0);
        x.setWarm(3, -1);
        x.setWarm(4, 1);
        x.pass(1);
        Check.due("with ice of 11", x.opens(0), 1);
    }

    /** arrives: "0 if it is now, at most 200; -1 if not by then". 60 - 6 * 10 + 5 * 2 is open, on the 201st day. */
    private static void arrivesNowOrIn200Days() {
        IceHarbour x = frozen(1);
        x.setWarm(0, 5);
        x.setWarm(1, -2);
        x.addMerchant(5000);
        x.build(0, 0, 1);
        x.berth(0, true);
        Check.due("now, where it is", x.arrives(0), 0);
        x.send(0, 1);
        Check.due("behind 201 days", x.arrives(0), -1);
        x.pass(1);
        Check.due("behind 200 days", x.arrives(0), 200);
        x.pass(1);
        Check.due("behind 199 days", x.arrives(0), 199);
        x.pass(198);
        Check.due("behind a day", x.arrives(0), 1);
        x.pass(1);
        Check.due("now, where it is sent", x.arrives(0), 0);
        Check.due("it is there", x.boat(0, 4), 1);
    }

    /** arrives: "-1 if not by then, or it sinks": with a point of hull that is left it is there. */
    private static void arrivesBeforeItSinks() {
        IceHarbour x = frozen(1);
        Rivers.warm(x, 17, 19, 9);
        x.addMerchant(0);
        x.build(0, 0, 1);
        x.send(0, 1);
        Check.due("its hull bears 19 days", x.arrives(0), 20);
        x.setWarm(17, 0);
        x.setWarm(20, 9);
        Check.due("but not 20", x.arrives(0), -1);
    }

    /** latest: "0 to 60": a leg that is open on the 61st day from now alone. */
    private static IceHarbour openOnTheDay(int days) {
        IceHarbour x = frozen(0);
        x.setWarm(days - 42, 9);
        x.setWarm(days - 41, 5);
        x.setWarm(days - 40, -4);
        return x;
    }

    /** latest: "the greatest number of days of waiting, 0 to 60, with which this is so; -1 if there is none". */
    private static void waitsNoneOr60Days() {
        IceHarbour x = openOnTheDay(61);
        Check.due("60 days", x.latest(0, 1), 60);
        Check.due("no two days for the way up", x.latest(1, 0), -1);
        x.pass(1);
        Check.due("59 days", x.latest(0, 1), 59);
        x.pass(59);
        x.setWarm(19, 0);
        Rivers.warm(x, 21, 22, -9);
        Check.due("none", x.latest(0, 1), 0);
        x.pass(1);
        Check.due("too late", x.latest(0, 1), -1);
        IceHarbour y = openOnTheDay(62);
        Check.due("61 days are too many", y.latest(0, 1), -1);
        y.pass(1);
        Check.due("60 of them", y.latest(0, 1), 60);
        IceHarbour warm = Rivers.line(2, 9, 0);
        Check.due("60 of all days", warm.latest(0, 1), 60);
        Check.due("up too", warm.latest(1, 0), 60);
        Check.due("nowhere", warm.latest(1, 1), 60);
    }

    /** latest: "is there in just as many days more as the way takes, so that no leg that is not open holds it up". */
    private static void waitsOnTheOnlyOpenDay() {
        IceHarbour x = Rivers.line(2, 3, 0);
        Rivers.warm(x, 0, 39, 0);
        Rivers.warm(x, 3, 4, -9);
        Check.due("three open days, the last one with ice of 9", x.latest(0, 1), 1);
        x.setWarm(2, -2);
        Check.due("the last one has ice of 11", x.latest(0, 1), 0);
        x.setWarm(2, 0);
        x.setWarm(3, -9);
        x.setWarm(1, -2);
        Check.due("the last one of three", x.latest(0, 1), 0);
        x.setWarm(0, -9);
        Check.due("the second one", x.latest(0, 1), -1);
    }

    /** advise: "days is not 1 to 120"; a coin for each of them. */
    private static void advisesFor1Or120Days() {
        IceHarbour x = frozen(1);
        x.addMerchant(120);
        x.build(0, 1, 1);
        x.pass(19);
        Check.due("a point of hull is left", x.boat(0, 1), 1);
        Check.due("for a day", x.advise(0, 1), 1);
        Check.due("for 120 days", x.advise(0, 120), 1);
        x.bring(0, 0, 0, 1);
        x.lend(0, x.addMerchant(0), 0, 0, 1, 500);
        Check.due("for 120 days still", x.advise(0, 120), 1);
        x.berth(0, true);
        Check.due("from the berth: it stays there, wherever it is sent", x.advise(0, 120), 0);
        x.pass(1);
        Check.due("119 coins for 119 days", x.advise(0, 119), 0);
        Check.due("but not for 120", x.advise(0, 120), -1);
    }

    /** advise: "of several the one with the smallest number", "the greatest hull". */
    private static void advisesTheSmallestOfSeveral() {
        IceHarbour x = new IceHarbour();
        int[] berths = {0, 1, 1, 0};
        for (int k = 0; k < 4; k++) {
            x.addHarbour(1, berths[k]);
        }
        Rivers.warm(x, 0, 39, -9);
        x.addMerchant(100);
        x.build(0, 2, 1);
        x.build(0, 1, 1);
        Check.due("all are alike behind two days", x.advise(0, 2), 0);
        Check.due("the berth two days up the river is behind closed ice: its own one", x.advise(0, 10), 2);
        x.setWarm(0, 0);
        Check.due("both are reached in time", x.advise(0, 10), 1);
        x.berth(1, true);
        Check.due("that one is taken", x.advise(0, 10), 2);
    }

    /** mean: of whole numbers, and of those that are none. */
    private static void meanOfSome() {
        IceHarbour x = bitten(1, 0);
        Check.due("of one with a point of hull", x.mean(), 1.0);
        x.build(0, 0, 1);
        Check.due("of 1 and 20", x.mean(), 10.5);
        x.build(0, 0, 1);
        Check.due("of 1, 20 and 20", x.mean(), 41.0 / 3.0);
        x.pass(1);
        Check.due("of 19 and 19, beside a sunk one", x.mean(), 19.0);
    }

    /** "An object is used for at most 512 calls": the last of them answers as it is due. */
    private static void callNumber512() {
        IceHarbour x = Rivers.three();
        x.addMerchant(0);
        x.build(0, 0, 60);
        x.send(0, 2);
        x.bring(0, 0, 0, 100);
        for (int call = 8; call <= 510; call++) {
            Check.due("call " + call, x.pass(200), 0);
        }
        Check.due("call 511", x.count(0), 503 * 200);
        Check.due("call 512", x.arrives(0), 0);
    }
}
