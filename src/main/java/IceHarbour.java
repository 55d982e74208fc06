import java.util.Arrays;

/** Flatboats on a river with harbours that freeze. */
public final class IceHarbour {
    private static final int GOODS = 4;
    private static final int MOST_HARBOURS = 8;
    private static final int MOST_LEGS = MOST_HARBOURS - 1;
    private static final int MOST_BERTHS = 5;
    private static final int MOST_MERCHANTS = 5;
    private static final int MOST_BOATS = 10;
    private static final int MOST_DEBTS = 30;

    private static final int TABLE_DAYS = 40;
    private static final int MOST_WARM = 9;
    private static final int WARM_AT_FIRST = 4;
    private static final int MOST_ICE = 60;
    private static final int MOST_OPEN_ICE = 10;
    private static final int MOST_HARMLESS_ICE = 20;

    private static final int LONGEST_LEG = 9;
    private static final int MOST_PRICE = 50;
    private static final int MOST_FIRST_COINS = 5000;
    private static final int MOST_BROUGHT = 100;
    private static final int MOST_ROOM = 60;
    private static final int WHOLE_HULL = 20;
    private static final int MEND_COINS = 3;

    private static final int AT_ANCHOR = 0;
    private static final int IN_BERTH = 1;
    private static final int ON_LEG = 2;
    private static final int SUNK = 3;
    private static final int NOWHERE = -1;

    private static final int OPEN = 0;
    private static final int PAID = 1;
    private static final int BROKEN = 2;

    private static final int MOST_DAYS_TO_PASS = 200;
    private static final int MOST_DAYS_TO_OPENING = 120;
    private static final int MOST_DAYS_TO_ARRIVAL = 200;
    private static final int MOST_DAYS_TO_ADVISE = 120;
    private static final int LONGEST_WAIT = 60;
    private static final int LONGEST_WAY = 2 * LONGEST_LEG * MOST_LEGS;

    private static final int COUNT_FACTS = 10;
    private static final int HARBOUR_FACTS = 8;
    private static final int LEG_FACTS = 4;
    private static final int MERCHANT_FACTS = 6;
    private static final int BOAT_FACTS = 12;
    private static final int DEBT_FACTS = 7;
    private static final int FIRST_PRICE_FACT = 4;
    private static final int FIRST_CARGO_FACT = 8;

    private static final long DIGEST_START = 661L;

    private final World world = new World();
    private final River river = world.river;

    // What looks ahead does so on this copy, made once, so that no call makes rows of its own.
    private final World trial = new World();
    private final int[][] iceAhead = new int[MOST_LEGS][LONGEST_WAIT + LONGEST_WAY + 1];

    public IceHarbour() {
    }

    // ---- river and frost

    public int setWarm(int day, int warm) throws IndexOutOfBoundsException, IllegalArgumentException {
        needIndex(day, TABLE_DAYS);
        needNumber(warm, -MOST_WARM, MOST_WARM);
        int before = river.warm[day];
        river.warm[day] = warm;
        return before;
    }

    public int addHarbour(int leg, int berths) throws IllegalArgumentException, IllegalStateException {
        needNumber(leg, 1, LONGEST_LEG);
        needNumber(berths, 0, MOST_BERTHS);
        needRoomForOneMore(river.harbours, MOST_HARBOURS);
        return river.grow(leg, berths);
    }

    public int setPrice(int harbour, int good, int price)
            throws IndexOutOfBoundsException, IllegalArgumentException {
        needHarbour(harbour);
        needIndex(good, GOODS);
        needNumber(price, 0, MOST_PRICE);
        int before = river.prices[cellOf(harbour, good)];
        river.prices[cellOf(harbour, good)] = price;
        return before;
    }

    public int harbour(int harbour, int what) throws IndexOutOfBoundsException {
        needHarbour(harbour);
        needIndex(what, HARBOUR_FACTS);
        return harbourFact(harbour, what);
    }

    public int leg(int leg, int what) throws IndexOutOfBoundsException {
        needLeg(leg);
        needIndex(what, LEG_FACTS);
        return legFact(leg, what);
    }

    // ---- merchants and boats

    public int addMerchant(int coins) throws IllegalArgumentException, IllegalStateException {
        needNumber(coins, 0, MOST_FIRST_COINS);
        needRoomForOneMore(world.merchantCount, MOST_MERCHANTS);
        int number = world.merchantCount;
        world.merchants[number].coins = coins;
        world.merchantCount = number + 1;
        return number;
    }

    public int bring(int merchant, int harbour, int good, int many)
            throws IndexOutOfBoundsException, IllegalArgumentException {
        needMerchant(merchant);
        needHarbour(harbour);
        needIndex(good, GOODS);
        needNumber(many, 1, MOST_BROUGHT);
        Merchant bringer = world.merchants[merchant];
        bringer.stocks[cellOf(harbour, good)] += many;
        return bringer.stocks[cellOf(harbour, good)];
    }

    public int sell(int merchant, int harbour, int good, int many)
            throws IndexOutOfBoundsException, IllegalArgumentException, IllegalStateException {
        needMerchant(merchant);
        needHarbour(harbour);
        needIndex(good, GOODS);
        needAtLeast(many, 1);
        Merchant seller = world.merchants[merchant];
        needEnough(seller.stocks[cellOf(harbour, good)], many);
        seller.stocks[cellOf(harbour, good)] -= many;
        seller.coins += many * river.prices[cellOf(harbour, good)];
        return seller.coins;
    }

    public int stock(int merchant, int harbour, int good) throws IndexOutOfBoundsException {
        needMerchant(merchant);
        needHarbour(harbour);
        needIndex(good, GOODS);
        return world.merchants[merchant].stocks[cellOf(harbour, good)];
    }

    public int merchant(int merchant, int what) throws IndexOutOfBoundsException {
        needMerchant(merchant);
        needIndex(what, MERCHANT_FACTS);
        return merchantFact(merchant, what);
    }

    public int build(int merchant, int harbour, int room)
            throws IndexOutOfBoundsException, IllegalArgumentException, IllegalStateException {
        needMerchant(merchant);
        needHarbour(harbour);
        needNumber(room, 1, MOST_ROOM);
        needRoomForOneMore(world.boatCount, MOST_BOATS);
        int number = world.boatCount;
        world.boats[number].launch(merchant, harbour, room);
        world.boatCount = number + 1;
        return number;
    }

    public int load(int boat, int good, int many)
            throws IndexOutOfBoundsException, IllegalArgumentException, IllegalStateException {
        needBoat(boat);
        needIndex(good, GOODS);
        needNumber(many, -MOST_ROOM, MOST_ROOM);
        if (many == 0) {
            throw new IllegalArgumentException("nothing is loaded");
        }
        Boat loaded = world.boats[boat];
        needInHarbour(loaded);
        Merchant owner = world.merchants[loaded.owner];
        int cell = cellOf(loaded.harbour, good);
        needEnough(many > 0 ? owner.stocks[cell] : loaded.cargo[good], Math.abs(many));
        needEnough(loaded.room - loaded.allCargo(), many);
        owner.stocks[cell] -= many;
        loaded.cargo[good] += many;
        return loaded.allCargo();
    }

    public int send(int boat, int harbour) throws IndexOutOfBoundsException, IllegalStateException {
        needBoat(boat);
        needHarbour(harbour);
        Boat sent = world.boats[boat];
        if (sent.place == SUNK) {
            throw new IllegalStateException("the boat is sunk");
        }
        sent.goal = harbour;
        return sent.daysToGo + river.wayDays(sent.harbour, harbour);
    }

    public int berth(int boat, boolean berths) throws IndexOutOfBoundsException, IllegalStateException {
        needBoat(boat);
        Boat moored = world.boats[boat];
        needInHarbour(moored);
        if (berths && moored.place != IN_BERTH) {
            needEnough(world.freeBerths(moored.harbour), 1);
        }
        moored.place = berths ? IN_BERTH : AT_ANCHOR;
        return world.freeBerths(moored.harbour);
    }

    public int mend(int boat) throws IndexOutOfBoundsException, IllegalStateException {
        needBoat(boat);
        Boat mended = world.boats[boat];
        needInHarbour(mended);
        Merchant owner = world.merchants[mended.owner];
        int points = Math.min(WHOLE_HULL - mended.hull, owner.coins / MEND_COINS);
        owner.coins -= points * MEND_COINS;
        mended.hull += points;
        return mended.hull;
    }

    public int boat(int boat, int what) throws IndexOutOfBoundsException {
        needBoat(boat);
        needIndex(what, BOAT_FACTS);
        return boatFact(world.boats[boat], what);
    }

    // ---- lending

    public int lend(int from, int to, int harbour, int good, int many, int day)
            throws IndexOutOfBoundsException, IllegalArgumentException, IllegalStateException {
        needMerchant(from);
        needMerchant(to);
        needHarbour(harbour);
        needIndex(good, GOODS);
        if (from == to) {
            throw new IllegalArgumentException("nobody lends to himself");
        }
        needAtLeast(many, 1);
        needAtLeast(day, river.day);
        needRoomForOneMore(world.debtCount, MOST_DEBTS);
        needEnough(world.merchants[from].stocks[cellOf(harbour, good)], many);
        world.hand(from, to, cellOf(harbour, good), many);
        int number = world.debtCount;
        world.debts[number].open(from, to, harbour, good, many + many / 10, day);
        world.debtCount = number + 1;
        return number;
    }

    public int repay(int debt, int harbour) throws IndexOutOfBoundsException, IllegalStateException {
        needIndex(debt, world.debtCount);
        needHarbour(harbour);
        Debt repaid = world.debts[debt];
        if (repaid.state != OPEN) {
            throw new IllegalStateException("the debt is not open");
        }
        int cell = cellOf(harbour, repaid.good);
        needEnough(world.merchants[repaid.debtor].stocks[cell], repaid.many);
        world.hand(repaid.debtor, repaid.lender, cell, repaid.many);
        repaid.state = PAID;
        return repaid.many;
    }

    public int debt(int debt, int what) throws IndexOutOfBoundsException {
        needIndex(debt, world.debtCount);
        needIndex(what, DEBT_FACTS);
        return debtFact(world.debts[debt], what);
    }

    // ---- days

    public int pass(int days) throws IllegalArgumentException {
        needNumber(days, 1, MOST_DAYS_TO_PASS);
        int sunkBefore = world.boatsIn(SUNK);
        for (int k = 0; k < days; k++) {
            world.passDay();
        }
        return world.boatsIn(SUNK) - sunkBefore;
    }

    public int count(int what) throws IndexOutOfBoundsException {
        needIndex(what, COUNT_FACTS);
        return countFact(what);
    }

    // ---- looking ahead

    public int opens(int leg) throws IndexOutOfBoundsException {
        needLeg(leg);
        int ice = river.ice[leg];
        for (int days = 0; days <= MOST_DAYS_TO_OPENING; days++) {
            if (ice <= MOST_OPEN_ICE) {
                return days;
            }
            ice = iceBehind(ice, river.warmOn(river.day + days));
        }
        return -1;
    }

    public int arrives(int boat) throws IndexOutOfBoundsException {
        needBoat(boat);
        trial.copyFrom(world);
        Boat watched = trial.boats[boat];
        for (int days = 0; days <= MOST_DAYS_TO_ARRIVAL; days++) {
            if (watched.place == SUNK) {
                return -1;
            }
            if (watched.isAtGoal()) {
                return days;
            }
            trial.passDay();
        }
        return -1;
    }

    public int latest(int from, int to) throws IndexOutOfBoundsException {
        needHarbour(from);
        needHarbour(to);
        foretellIce();
        for (int wait = LONGEST_WAIT; wait >= 0; wait--) {
            if (isFreeWay(from, to, wait)) {
                return wait;
            }
        }
        return -1;
    }

    public int advise(int boat, int days) throws IndexOutOfBoundsException, IllegalArgumentException {
        needBoat(boat);
        needNumber(days, 1, MOST_DAYS_TO_ADVISE);
        int best = -1;
        int bestHull = 0;
        for (int goal = 0; goal < river.harbours; goal++) {
            int hull = hullBehind(boat, goal, days);
            if (hull > bestHull) {
                best = goal;
                bestHull = hull;
            }
        }
        return best;
    }

    public double mean() {
        int afloat = world.boatCount - world.boatsIn(SUNK);
        if (afloat == 0) {
            return 0.0;
        }
        int hulls = 0;
        for (int k = 0; k < world.boatCount; k++) {
            // A sunk boat has no hull left, so it adds nothing.
            hulls += world.boats[k].hull;
        }
        return (double) hulls / (double) afloat;
    }

    public long digest() {
        long d = DIGEST_START;
        for (int what = 0; what < COUNT_FACTS; what++) {
            d = mix(d, countFact(what));
        }
        for (int day = 0; day < TABLE_DAYS; day++) {
            d = mix(d, river.warm[day]);
        }
        d = mixHarbours(d);
        d = mixLegs(d);
        d = mixMerchants(d);
        d = mixBoats(d);
        return mixDebts(d);
    }

    // ---- what the calls need

    private static void needIndex(int index, int count) {
        if (index < 0 || index >= count) {
            throw new IndexOutOfBoundsException("there is no such number");
        }
    }

    private static void needNumber(int number, int least, int most) {
        if (number < least || number > most) {
            throw new IllegalArgumentException("the number is too small or too great");
        }
    }

    private static void needAtLeast(int number, int least) {
        if (number < least) {
            throw new IllegalArgumentException("the number is too small");
        }
    }

    private static void needRoomForOneMore(int count, int most) {
        if (count >= most) {
            throw new IllegalStateException("there are as many as there can be");
        }
    }

    private static void needEnough(int there, int wanted) {
        if (there < wanted) {
            throw new IllegalStateException("there is not so much");
        }
    }

    private static void needInHarbour(Boat boat) {
        if (!boat.isInHarbour()) {
            throw new IllegalStateException("the boat is in no harbour");
        }
    }

    private void needHarbour(int harbour) {
        needIndex(harbour, river.harbours);
    }

    private void needLeg(int leg) {
        needIndex(leg, river.legs());
    }

    private void needMerchant(int merchant) {
        needIndex(merchant, world.merchantCount);
    }

    private void needBoat(int boat) {
        needIndex(boat, world.boatCount);
    }

    // ---- what the calls tell

    private int countFact(int what) {
        switch (what) {
            case 0: return river.day;
            case 1: return river.harbours;
            case 2: return world.merchantCount;
            case 3: return world.boatCount;
            case 4: return world.boatsIn(SUNK);
            case 5: return world.boatsIn(ON_LEG);
            case 6: return world.debtCount;
            case 7: return world.openDebts();
            case 8: return world.allCoins();
            default: return river.openLegs();
        }
    }

    private int harbourFact(int harbour, int what) {
        switch (what) {
            case 0: return river.berths[harbour];
            case 1: return world.boatsLying(harbour, IN_BERTH);
            case 2: return world.boatsLying(harbour, IN_BERTH) + world.boatsLying(harbour, AT_ANCHOR);
            case 3: return river.iceAtHarbour(harbour);
            default: return river.prices[cellOf(harbour, what - FIRST_PRICE_FACT)];
        }
    }

    private int legFact(int leg, int what) {
        switch (what) {
            case 0: return river.legDays[leg];
            case 1: return river.ice[leg];
            case 2: return river.isOpen(leg) ? 1 : 0;
            default: return world.boatsOnLeg(leg);
        }
    }

    private int merchantFact(int merchant, int what) {
        switch (what) {
            case 0: return world.merchants[merchant].coins;
            case 1: return world.boatsAfloatOf(merchant);
            case 2: return world.debtsOf(merchant, OPEN);
            case 3: return world.debtsOf(merchant, BROKEN);
            case 4: return sum(world.merchants[merchant].stocks);
            default: return world.cargoOf(merchant);
        }
    }

    private static int boatFact(Boat boat, int what) {
        switch (what) {
            case 0: return boat.owner;
            case 1: return boat.hull;
            case 2: return boat.room;
            case 3: return boat.place;
            case 4: return boat.harbour;
            case 5: return boat.goal;
            case 6: return boat.daysToGo;
            case 7: return boat.allCargo();
            default: return boat.cargo[what - FIRST_CARGO_FACT];
        }
    }

    private static int debtFact(Debt debt, int what) {
        switch (what) {
            case 0: return debt.lender;
            case 1: return debt.debtor;
            case 2: return debt.harbour;
            case 3: return debt.good;
            case 4: return debt.many;
            case 5: return debt.dueDay;
            default: return debt.state;
        }
    }

    // ---- the checksum

    private static long mix(long d, int number) {
        return d * 31L + number;
    }

    private long mixHarbours(long before) {
        long d = before;
        for (int harbour = 0; harbour < river.harbours; harbour++) {
            for (int what = 0; what < HARBOUR_FACTS; what++) {
                d = mix(d, harbourFact(harbour, what));
            }
        }
        return d;
    }

    private long mixLegs(long before) {
        long d = before;
        for (int leg = 0; leg < river.legs(); leg++) {
            for (int what = 0; what < LEG_FACTS; what++) {
                d = mix(d, legFact(leg, what));
            }
        }
        return d;
    }

    private long mixMerchants(long before) {
        long d = before;
        int cells = river.harbours * GOODS;
        for (int merchant = 0; merchant < world.merchantCount; merchant++) {
            for (int what = 0; what < MERCHANT_FACTS; what++) {
                d = mix(d, merchantFact(merchant, what));
            }
            for (int cell = 0; cell < cells; cell++) {
                d = mix(d, world.merchants[merchant].stocks[cell]);
            }
        }
        return d;
    }

    private long mixBoats(long before) {
        long d = before;
        for (int boat = 0; boat < world.boatCount; boat++) {
            for (int what = 0; what < BOAT_FACTS; what++) {
                d = mix(d, boatFact(world.boats[boat], what));
            }
        }
        return d;
    }

    private long mixDebts(long before) {
        long d = before;
        for (int debt = 0; debt < world.debtCount; debt++) {
            for (int what = 0; what < DEBT_FACTS; what++) {
                d = mix(d, debtFact(world.debts[debt], what));
            }
        }
        return d;
    }

    // ---- how the calls look ahead

    private void foretellIce() {
        int legs = river.legs();
        for (int leg = 0; leg < legs; leg++) {
            int[] row = iceAhead[leg];
            row[0] = river.ice[leg];
            for (int days = 1; days < row.length; days++) {
                row[days] = iceBehind(row[days - 1], river.warmOn(river.day + days - 1));
            }
        }
    }

    /** Whether each leg of the way is open on each day that a boat is on it, with iceAhead foretold. */
    private boolean isFreeWay(int from, int to, int wait) {
        boolean down = from < to;
        int legsOnWay = Math.abs(to - from);
        int day = wait;
        for (int k = 0; k < legsOnWay; k++) {
            int leg = down ? from + k : from - 1 - k;
            int lastDay = day + river.daysOver(leg, down);
            while (day < lastDay) {
                day++;
                if (iceAhead[leg][day] > MOST_OPEN_ICE) {
                    return false;
                }
            }
        }
        return true;
    }

    private int hullBehind(int boat, int goal, int days) {
        trial.copyFrom(world);
        Boat sent = trial.boats[boat];
        sent.goal = goal;
        trial.berthAtGoal(sent);
        for (int k = 0; k < days && sent.place != SUNK; k++) {
            trial.passDay();
            trial.berthAtGoal(sent);
        }
        return sent.hull;
    }

    // ---- small sums

    /** Where a good at a harbour stands in the rows that hold all goods of all harbours. */
    private static int cellOf(int harbour, int good) {
        return harbour * GOODS + good;
    }

    private static int sum(int[] row) {
        int all = 0;
        for (int k = 0; k < row.length; k++) {
            all += row[k];
        }
        return all;
    }

    private static int iceBehind(int ice, int warm) {
        int next = warm < 0 ? ice - warm : ice - 2 * warm;
        return Math.max(0, Math.min(MOST_ICE, next));
    }

    private static void copyRow(int[] from, int[] to) {
        System.arraycopy(from, 0, to, 0, Math.min(from.length, to.length));
    }

    /** The day, the frost, and the harbours with the legs between them. */
    private static final class River {
        int day;
        int harbours;
        final int[] warm = new int[TABLE_DAYS];
        final int[] legDays = new int[MOST_LEGS];
        final int[] ice = new int[MOST_LEGS];
        final int[] berths = new int[MOST_HARBOURS];
        final int[] prices = new int[MOST_HARBOURS * GOODS];

        River() {
            for (int d = 0; d < TABLE_DAYS; d++) {
                warm[d] = WARM_AT_FIRST;
            }
        }

        void copyFrom(River other) {
            day = other.day;
            harbours = other.harbours;
            copyRow(other.warm, warm);
            copyRow(other.legDays, legDays);
            copyRow(other.ice, ice);
            copyRow(other.berths, berths);
            copyRow(other.prices, prices);
        }

        int grow(int daysToIt, int berthsOfIt) {
            int number = harbours;
            if (number > 0) {
                legDays[number - 1] = daysToIt;
            }
            berths[number] = berthsOfIt;
            harbours = number + 1;
            return number;
        }

        int legs() {
            return Math.max(0, harbours - 1);
        }

        boolean isOpen(int leg) {
            return ice[leg] <= MOST_OPEN_ICE;
        }

        int openLegs() {
            int open = 0;
            for (int leg = 0; leg < legs(); leg++) {
                if (isOpen(leg)) {
                    open++;
                }
            }
            return open;
        }

        int iceAtHarbour(int harbour) {
            int leg = Math.min(harbour, legs() - 1);
            return leg < 0 ? 0 : ice[leg];
        }

        int warmOn(int someDay) {
            return warm[Math.floorMod(someDay, TABLE_DAYS)];
        }

        void freezeOrThaw() {
            int today = warmOn(day);
            for (int leg = 0; leg < legs(); leg++) {
                ice[leg] = iceBehind(ice[leg], today);
            }
        }

        int daysOver(int leg, boolean down) {
            return down ? legDays[leg] : 2 * legDays[leg];
        }

        int wayDays(int from, int to) {
            int days = 0;
            for (int leg = from; leg < to; leg++) {
                days += daysOver(leg, true);
            }
            for (int leg = to; leg < from; leg++) {
                days += daysOver(leg, false);
            }
            return days;
        }
    }

    private static final class Merchant {
        int coins;
        final int[] stocks = new int[MOST_HARBOURS * GOODS];

        void copyFrom(Merchant other) {
            coins = other.coins;
            copyRow(other.stocks, stocks);
        }
    }

    private static final class Boat {
        int owner;
        int hull;
        int room;
        int place;
        /** Where it lies, or where the leg that it is on ends for it. */
        int harbour;
        int onLeg;
        int goal;
        int daysToGo;
        final int[] cargo = new int[GOODS];

        void launch(int itsOwner, int itsHarbour, int itsRoom) {
            owner = itsOwner;
            hull = WHOLE_HULL;
            room = itsRoom;
            place = AT_ANCHOR;
            harbour = itsHarbour;
            goal = itsHarbour;
        }

        void copyFrom(Boat other) {
            owner = other.owner;
            hull = other.hull;
            room = other.room;
            place = other.place;
            harbour = other.harbour;
            onLeg = other.onLeg;
            goal = other.goal;
            daysToGo = other.daysToGo;
            copyRow(other.cargo, cargo);
        }

        boolean isInHarbour() {
            return place == AT_ANCHOR || place == IN_BERTH;
        }

        boolean isAtGoal() {
            return isInHarbour() && harbour == goal;
        }

        int allCargo() {
            return sum(cargo);
        }

        void loseHull() {
            hull--;
            if (hull <= 0) {
                place = SUNK;
                harbour = NOWHERE;
                daysToGo = 0;
                Arrays.fill(cargo, 0);
            }
        }
    }

    private static final class Debt {
        int lender;
        int debtor;
        int harbour;
        int good;
        int many;
        int dueDay;
        int state;

        void open(int from, int to, int where, int what, int howMany, int day) {
            lender = from;
            debtor = to;
            harbour = where;
            good = what;
            many = howMany;
            dueDay = day;
            state = OPEN;
        }

        void copyFrom(Debt other) {
            open(other.lender, other.debtor, other.harbour, other.good, other.many, other.dueDay);
            state = other.state;
        }
    }

    /** All that there is, and how a day goes by in it. */
    private static final class World {
        final River river = new River();
        int merchantCount;
        int boatCount;
        int debtCount;
        final Merchant[] merchants = new Merchant[MOST_MERCHANTS];
        final Boat[] boats = new Boat[MOST_BOATS];
        final Debt[] debts = new Debt[MOST_DEBTS];

        World() {
            for (int k = 0; k < MOST_MERCHANTS; k++) {
                merchants[k] = new Merchant();
            }
            for (int k = 0; k < MOST_BOATS; k++) {
                boats[k] = new Boat();
            }
            for (int k = 0; k < MOST_DEBTS; k++) {
                debts[k] = new Debt();
            }
        }

        void copyFrom(World other) {
            river.copyFrom(other.river);
            merchantCount = other.merchantCount;
            boatCount = other.boatCount;
            debtCount = other.debtCount;
            for (int k = 0; k < merchantCount; k++) {
                merchants[k].copyFrom(other.merchants[k]);
            }
            for (int k = 0; k < boatCount; k++) {
                boats[k].copyFrom(other.boats[k]);
            }
            for (int k = 0; k < debtCount; k++) {
                debts[k].copyFrom(other.debts[k]);
            }
        }

        int boatsIn(int place) {
            int many = 0;
            for (int k = 0; k < boatCount; k++) {
                if (boats[k].place == place) {
                    many++;
                }
            }
            return many;
        }

        int boatsLying(int harbour, int place) {
            int many = 0;
            for (int k = 0; k < boatCount; k++) {
                if (boats[k].place == place && boats[k].harbour == harbour) {
                    many++;
                }
            }
            return many;
        }

        int boatsOnLeg(int leg) {
            int many = 0;
            for (int k = 0; k < boatCount; k++) {
                if (boats[k].place == ON_LEG && boats[k].onLeg == leg) {
                    many++;
                }
            }
            return many;
        }

        int boatsAfloatOf(int merchant) {
            int many = 0;
            for (int k = 0; k < boatCount; k++) {
                if (boats[k].owner == merchant && boats[k].place != SUNK) {
                    many++;
                }
            }
            return many;
        }

        int cargoOf(int merchant) {
            int many = 0;
            for (int k = 0; k < boatCount; k++) {
                if (boats[k].owner == merchant) {
                    many += boats[k].allCargo();
                }
            }
            return many;
        }

        int openDebts() {
            int many = 0;
            for (int merchant = 0; merchant < merchantCount; merchant++) {
                many += debtsOf(merchant, OPEN);
            }
            return many;
        }

        int debtsOf(int merchant, int state) {
            int many = 0;
            for (int k = 0; k < debtCount; k++) {
                if (debts[k].debtor == merchant && debts[k].state == state) {
                    many++;
                }
            }
            return many;
        }

        int allCoins() {
            int coins = 0;
            for (int k = 0; k < merchantCount; k++) {
                coins += merchants[k].coins;
            }
            return coins;
        }

        int freeBerths(int harbour) {
            return river.berths[harbour] - boatsLying(harbour, IN_BERTH);
        }

        void berthAtGoal(Boat boat) {
            if (boat.place == AT_ANCHOR && boat.harbour == boat.goal && freeBerths(boat.harbour) > 0) {
                boat.place = IN_BERTH;
            }
        }

        void hand(int giver, int taker, int cell, int many) {
            merchants[giver].stocks[cell] -= many;
            merchants[taker].stocks[cell] += many;
        }

        void passDay() {
            river.freezeOrThaw();
            for (int k = 0; k < boatCount; k++) {
                payForBerth(boats[k]);
            }
            for (int k = 0; k < boatCount; k++) {
                goOn(boats[k]);
                bearIce(boats[k]);
            }
            for (int k = 0; k < debtCount; k++) {
                settle(debts[k]);
            }
            river.day++;
        }

        void payForBerth(Boat boat) {
            if (boat.place != IN_BERTH) {
                return;
            }
            Merchant owner = merchants[boat.owner];
            if (owner.coins > 0) {
                owner.coins--;
            } else {
                boat.place = AT_ANCHOR;
            }
        }

        void goOn(Boat boat) {
            if (boat.isInHarbour() && boat.harbour != boat.goal) {
                setOut(boat);
            } else if (boat.place == ON_LEG && river.isOpen(boat.onLeg)) {
                boat.daysToGo--;
            }
            if (boat.place == ON_LEG && boat.daysToGo <= 0) {
                boat.place = AT_ANCHOR;
            }
        }

        void setOut(Boat boat) {
            boolean down = boat.harbour < boat.goal;
            int leg = down ? boat.harbour : boat.harbour - 1;
            if (!river.isOpen(leg)) {
                return;
            }
            boat.place = ON_LEG;
            boat.onLeg = leg;
            boat.harbour = down ? boat.harbour + 1 : boat.harbour - 1;
            boat.daysToGo = river.daysOver(leg, down) - 1;
        }

        void bearIce(Boat boat) {
            if (boat.place == ON_LEG && river.ice[boat.onLeg] > MOST_HARMLESS_ICE) {
                boat.loseHull();
            } else if (boat.place == AT_ANCHOR && river.iceAtHarbour(boat.harbour) > MOST_HARMLESS_ICE) {
                boat.loseHull();
            }
        }

        void settle(Debt debt) {
            if (debt.state != OPEN || debt.dueDay > river.day) {
                return;
            }
            Merchant debtor = merchants[debt.debtor];
            int cell = cellOf(debt.harbour, debt.good);
            int cost = debt.many * river.prices[cell];
            if (debtor.stocks[cell] >= debt.many) {
                hand(debt.debtor, debt.lender, cell, debt.many);
                debt.state = PAID;
            } else if (debtor.coins >= cost) {
                debtor.coins -= cost;
                merchants[debt.lender].coins += cost;
                debt.state = PAID;
            } else {
                debt.state = BROKEN;
            }
        }
    }
}
