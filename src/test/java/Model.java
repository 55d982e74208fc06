import java.util.ArrayList;
import java.util.List;
import java.util.function.Predicate;

/**
 * The document once more, in the plainest form and with no care for speed: what looks ahead copies all
 * and lives through the days. IceHarbour must answer alike.
 */
final class Model {
    static final class Leg {
        int days;
        int ice;
    }

    static final class Boat {
        int owner;
        int hull = 20;
        int room;
        String where = "anchor";
        int harbour;
        int from;
        int goal;
        int left;
        int[] goods = new int[4];

        boolean moored() {
            return where.equals("anchor") || where.equals("berth");
        }

        int load() {
            return goods[0] + goods[1] + goods[2] + goods[3];
        }
    }

    static final class Debt {
        int[] facts;
    }

    private int day;
    private final int[] table = new int[40];
    private final List<Leg> legs = new ArrayList<>();
    private final List<int[]> harbours = new ArrayList<>();
    private final List<int[]> purses = new ArrayList<>();
    private final int[][][] goods = new int[5][8][4];
    private final List<Boat> boats = new ArrayList<>();
    private final List<Debt> debts = new ArrayList<>();

    Model() {
        for (int k = 0; k < 40; k++) {
            table[k] = 4;
        }
    }

    private Model copy() {
        Model m = new Model();
        m.day = day;
        System.arraycopy(table, 0, m.table, 0, 40);
        for (Leg leg : legs) {
            Leg l = new Leg();
            l.days = leg.days;
            l.ice = leg.ice;
            m.legs.add(l);
        }
        for (int[] h : harbours) {
            m.harbours.add(h.clone());
        }
        for (int[] p : purses) {
            m.purses.add(p.clone());
        }
        for (int k = 0; k < 5; k++) {
            for (int h = 0; h < 8; h++) {
                m.goods[k][h] = goods[k][h].clone();
            }
        }
        for (Boat boat : boats) {
            Boat b = new Boat();
            b.owner = boat.owner;
            b.hull = boat.hull;
            b.room = boat.room;
            b.where = boat.where;
            b.harbour = boat.harbour;
            b.from = boat.from;
            b.goal = boat.goal;
            b.left = boat.left;
            b.goods = boat.goods.clone();
            m.boats.add(b);
        }
        for (Debt debt : debts) {
            Debt d = new Debt();
            d.facts = debt.facts.clone();
            m.debts.add(d);
        }
        return m;
    }

    private static void bounds(boolean fine) {
        if (!fine) {
            throw new IndexOutOfBoundsException();
        }
    }

    private static void argument(boolean fine) {
        if (!fine) {
            throw new IllegalArgumentException();
        }
    }

    private static void state(boolean fine) {
        if (!fine) {
            throw new IllegalStateException();
        }
    }

    private static boolean in(int k, List<?> list) {
        return k >= 0 && k < list.size();
    }

    private static boolean between(int k, int least, int most) {
        return k >= least && k <= most;
    }

    int setWarm(int d, int warm) {
        bounds(between(d, 0, 39));
        argument(between(warm, -9, 9));
        int was = table[d];
        table[d] = warm;
        return was;
    }

    int addHarbour(int leg, int berths) {
        argument(between(leg, 1, 9) && between(berths, 0, 5));
        state(harbours.size() < 8);
        if (!harbours.isEmpty()) {
            Leg l = new Leg();
            l.days = leg;
            legs.add(l);
        }
        harbours.add(new int[] {berths, 0, 0, 0, 0});
        return harbours.size() - 1;
    }

    int setPrice(int h, int good, int price) {
        bounds(in(h, harbours) && between(good, 0, 3));
        argument(between(price, 0, 50));
        int was = harbours.get(h)[1 + good];
        harbours.get(h)[1 + good] = price;
        return was;
    }

    private int boats(Predicate<Boat> such) {
        return (int) boats.stream().filter(such).count();
    }

    private int iceAt(int h) {
        return legs.isEmpty() ? 0 : h < legs.size() ? legs.get(h).ice : legs.get(h - 1).ice;
    }

    private Leg legOf(Boat b) {
        return legs.get(Math.min(b.from, b.harbour));
    }

    int harbour(int h, int what) {
        bounds(in(h, harbours) && between(what, 0, 7));
        int[] facts = {
            harbours.get(h)[0], boats(b -> b.where.equals("berth") && b.harbour == h),
            boats(b -> b.moored() && b.harbour == h), iceAt(h),
        };
        return what < 4 ? facts[what] : harbours.get(h)[what - 3];
    }

    int leg(int k, int what) {
        bounds(in(k, legs) && between(what, 0, 3));
        Leg l = legs.get(k);
        int[] facts = {
            l.days, l.ice, l.ice <= 10 ? 1 : 0, boats(b -> b.where.equals("leg") && legOf(b) == l),
        };
        return facts[what];
    }

    int addMerchant(int coins) {
        argument(between(coins, 0, 5000));
        state(purses.size() < 5);
        purses.add(new int[] {coins});
        return purses.size() - 1;
    }

    int bring(int m, int h, int good, int many) {
        bounds(in(m, purses) && in(h, harbours) && between(good, 0, 3));
        argument(between(many, 1, 100));
        goods[m][h][good] += many;
        return goods[m][h][good];
    }

    int sell(int m, int h, int good, int many) {
        bounds(in(m, purses) && in(h, harbours) && between(good, 0, 3));
        argument(many >= 1);
        state(goods[m][h][good] >= many);
        goods[m][h][good] -= many;
        purses.get(m)[0] += many * harbours.get(h)[1 + good];
        return purses.get(m)[0];
    }

    int stock(int m, int h, int good) {
        bounds(in(m, purses) && in(h, harbours) && between(good, 0, 3));
        return goods[m][h][good];
    }

    private int debts(int m, int state) {
        return (int) debts.stream().filter(d -> d.facts[1] == m && d.facts[6] == state).count();
    }

    int merchant(int m, int what) {
        bounds(in(m, purses) && between(what, 0, 5));
        int ashore = 0;
        for (int[] row : goods[m]) {
            ashore += row[0] + row[1] + row[2] + row[3];
        }
        int afloat = boats.stream().filter(b -> b.owner == m).mapToInt(Boat::load).sum();
        int[] facts = {
            purses.get(m)[0], boats(b -> b.owner == m && !b.where.equals("sunk")), debts(m, 0), debts(m, 2),
            ashore, afloat,
        };
        return facts[what];
    }

    int build(int m, int h, int room) {
        bounds(in(m, purses) && in(h, harbours));
        argument(between(room, 1, 60));
        state(boats.size() < 10);
        Boat b = new Boat();
        b.owner = m;
        b.room = room;
        b.harbour = h;
        b.goal = h;
        boats.add(b);
        return boats.size() - 1;
    }

    int load(int k, int good, int many) {
        bounds(in(k, boats) && between(good, 0, 3));
        argument(many != 0 && between(many, -60, 60));
        Boat b = boats.get(k);
        state(b.moored());
        int[] shelf = goods[b.owner][b.harbour];
        state(shelf[good] - many >= 0 && b.goods[good] + many >= 0 && b.load() + many <= b.room);
        shelf[good] -= many;
        b.goods[good] += many;
        return b.load();
    }

    private int way(int from, int to) {
        if (from == to) {
            return 0;
        }
        return from < to ? legs.get(from).days + way(from + 1, to) : 2 * legs.get(from - 1).days + way(from - 1, to);
    }

    int send(int k, int h) {
        bounds(in(k, boats) && in(h, harbours));
        Boat b = boats.get(k);
        state(!b.where.equals("sunk"));
        b.goal = h;
        return (b.where.equals("leg") ? b.left : 0) + way(b.harbour, h);
    }

    int berth(int k, boolean berths) {
        bounds(in(k, boats));
        Boat b = boats.get(k);
        state(b.moored());
        int free = harbour(b.harbour, 0) - harbour(b.harbour, 1);
        state(!berths || b.where.equals("berth") || free > 0);
        b.where = berths ? "berth" : "anchor";
        return harbour(b.harbour, 0) - harbour(b.harbour, 1);
    }

    int mend(int k) {
        bounds(in(k, boats));
        Boat b = boats.get(k);
        state(b.moored());
        while (b.hull < 20 && purses.get(b.owner)[0] >= 3) {
            b.hull++;
            purses.get(b.owner)[0] -= 3;
        }
        return b.hull;
    }

    int boat(int k, int what) {
        bounds(in(k, boats) && between(what, 0, 11));
        Boat b = boats.get(k);
        boolean sunk = b.where.equals("sunk");
        int[] facts = {
            b.owner, b.hull, b.room, List.of("anchor", "berth", "leg", "sunk").indexOf(b.where),
            sunk ? -1 : b.harbour, b.goal, b.where.equals("leg") ? b.left : 0, b.load(),
            b.goods[0], b.goods[1], b.goods[2], b.goods[3],
        };
        return facts[what];
    }

    int lend(int from, int to, int h, int good, int many, int due) {
        bounds(in(from, purses) && in(to, purses) && in(h, harbours) && between(good, 0, 3));
        argument(from != to && many >= 1 && due >= day);
        state(debts.size() < 30 && goods[from][h][good] >= many);
        goods[from][h][good] -= many;
        goods[to][h][good] += many;
        Debt d = new Debt();
        d.facts = new int[] {from, to, h, good, many + many / 10, due, 0};
        debts.add(d);
        return debts.size() - 1;
    }

    int repay(int k, int h) {
        bounds(in(k, debts) && in(h, harbours));
        int[] d = debts.get(k).facts;
        state(d[6] == 0 && goods[d[1]][h][d[3]] >= d[4]);
        goods[d[1]][h][d[3]] -= d[4];
        goods[d[0]][h][d[3]] += d[4];
        d[6] = 1;
        return d[4];
    }

    int debt(int k, int what) {
        bounds(in(k, debts) && between(what, 0, 6));
        return debts.get(k).facts[what];
    }

    private void live() {
        for (Leg l : legs) {
            int warm = table[day % 40];
            l.ice = Math.min(60, Math.max(0, warm < 0 ? l.ice + -warm : l.ice - 2 * warm));
        }
        for (Boat b : boats) {
            if (b.where.equals("berth")) {
                if (purses.get(b.owner)[0] == 0) {
                    b.where = "anchor";
                } else {
                    purses.get(b.owner)[0]--;
                }
            }
        }
        for (Boat b : boats) {
            sail(b);
            int ice = b.where.equals("leg") ? legOf(b).ice : b.where.equals("anchor") ? iceAt(b.harbour) : 0;
            if (ice > 20 && --b.hull == 0) {
                b.where = "sunk";
                b.goods = new int[4];
            }
        }
        for (Debt debt : debts) {
            settle(debt.facts);
        }
        day++;
    }

    private void sail(Boat b) {
        if (b.where.equals("leg")) {
            if (legOf(b).ice <= 10) {
                b.left--;
            }
        } else if (b.moored() && b.goal != b.harbour) {
            int next = b.goal > b.harbour ? b.harbour + 1 : b.harbour - 1;
            if (legs.get(Math.min(b.harbour, next)).ice <= 10) {
                b.left = way(b.harbour, next) - 1;
                b.from = b.harbour;
                b.harbour = next;
                b.where = "leg";
            }
        }
        if (b.where.equals("leg") && b.left == 0) {
            b.where = "anchor";
        }
    }

    private void settle(int[] d) {
        if (d[6] != 0 || d[5] > day) {
            return;
        }
        int[] shelf = goods[d[1]][d[2]];
        int cost = d[4] * harbours.get(d[2])[1 + d[3]];
        d[6] = 1;
        if (shelf[d[3]] >= d[4]) {
            shelf[d[3]] -= d[4];
            goods[d[0]][d[2]][d[3]] += d[4];
        } else if (purses.get(d[1])[0] >= cost) {
            purses.get(d[1])[0] -= cost;
            purses.get(d[0])[0] += cost;
        } else {
            d[6] = 2;
        }
    }

    int pass(int days) {
        argument(between(days, 1, 200));
        int before = count(4);
        for (int k = 0; k < days; k++) {
            live();
        }
        return count(4) - before;
    }

    int count(int what) {
        bounds(between(what, 0, 9));
        int[] facts = {
            day, harbours.size(), purses.size(), boats.size(), boats(b -> b.where.equals("sunk")),
            boats(b -> b.where.equals("leg")), debts.size(),
            (int) debts.stream().filter(d -> d.facts[6] == 0).count(),
            purses.stream().mapToInt(p -> p[0]).sum(), (int) legs.stream().filter(l -> l.ice <= 10).count(),
        };
        return facts[what];
    }

    int opens(int k) {
        bounds(in(k, legs));
        Model m = copy();
        for (int days = 0; days <= 120; days++) {
            if (m.legs.get(k).ice <= 10) {
                return days;
            }
            m.live();
        }
        return -1;
    }

    int arrives(int k) {
        bounds(in(k, boats));
        Model m = copy();
        Boat b = m.boats.get(k);
        for (int days = 0; days <= 200; days++) {
            if (b.moored() && b.harbour == b.goal) {
                return days;
            }
            m.live();
        }
        return -1;
    }

    /** Sends a boat of its own that cannot sink, and looks when it is there. */
    int latest(int from, int to) {
        bounds(in(from, harbours) && in(to, harbours));
        int best = -1;
        Model waiting = copy();
        waiting.purses.clear();
        waiting.purses.add(new int[] {0});
        waiting.boats.clear();
        waiting.debts.clear();
        for (int wait = 0; wait <= 60; wait++) {
            Model m = waiting.copy();
            Boat b = m.boats.get(m.build(0, from, 1));
            b.hull = 1000;
            int days = m.send(0, to);
            for (int k = 0; k < days; k++) {
                m.live();
            }
            if (b.moored() && b.harbour == to) {
                best = wait;
            }
            waiting.live();
        }
        return best;
    }

    int advise(int k, int days) {
        bounds(in(k, boats));
        argument(between(days, 1, 120));
        int best = -1;
        int bestHull = 0;
        for (int goal = harbours.size() - 1; goal >= 0; goal--) {
            Model m = copy();
            Boat b = m.boats.get(k);
            b.goal = goal;
            for (int d = 0; d <= days; d++) {
                if (d > 0) {
                    m.live();
                }
                if (b.where.equals("anchor") && b.harbour == goal && m.harbour(goal, 0) > m.harbour(goal, 1)) {
                    b.where = "berth";
                }
            }
            if (!b.where.equals("sunk") && b.hull >= bestHull) {
                best = goal;
                bestHull = b.hull;
            }
        }
        return best;
    }

    double mean() {
        return boats.stream().filter(b -> !b.where.equals("sunk")).mapToInt(b -> b.hull).average().orElse(0);
    }

    long digest() {
        List<Integer> all = new ArrayList<>();
        for (int what = 0; what < 10; what++) {
            all.add(count(what));
        }
        for (int warm : table) {
            all.add(warm);
        }
        for (int k = 0; k < harbours.size() * 8; k++) {
            all.add(harbour(k / 8, k % 8));
        }
        for (int k = 0; k < legs.size() * 4; k++) {
            all.add(leg(k / 4, k % 4));
        }
        for (int m = 0; m < purses.size(); m++) {
            for (int what = 0; what < 6; what++) {
                all.add(merchant(m, what));
            }
            for (int k = 0; k < harbours.size() * 4; k++) {
                all.add(stock(m, k / 4, k % 4));
            }
        }
        for (int k = 0; k < boats.size() * 12; k++) {
            all.add(boat(k / 12, k % 12));
        }
        for (int k = 0; k < debts.size() * 7; k++) {
            all.add(debt(k / 7, k % 7));
        }
        long d = 661;
        for (int x : all) {
            d = d * 31 + x;
        }
        return d;
    }
}
