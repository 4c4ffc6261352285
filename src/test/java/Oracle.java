import java.math.BigInteger;
import java.util.ArrayList;
import java.util.Arrays;
import java.util.List;

/**
 * The document's sums done in another way than the program's: month by month, in exact fractions,
 * everything found anew for each bill. Calls answer what is due, or throw it. Where the document can
 * be read in two ways, it reads it as the program does.
 */
final class Oracle {
    private static final int NONE = -1;

    /** An exact fraction, never negative here. */
    record Part(BigInteger up, BigInteger down) {
        static final Part ZERO = of(0, 1);

        static Part of(long up, long down) {
            return new Part(BigInteger.valueOf(up), BigInteger.valueOf(down));
        }

        Part plus(Part other) {
            return new Part(up.multiply(other.down).add(other.up.multiply(down)),
                    down.multiply(other.down));
        }

        Part times(Part other) {
            return new Part(up.multiply(other.up), down.multiply(other.down));
        }

        Part by(Part other) {
            return new Part(up.multiply(other.down), down.multiply(other.up));
        }

        int compare(Part other) {
            return up.multiply(other.down).compareTo(other.up.multiply(down));
        }

        int floor() {
            return up.divide(down).intValueExact();
        }

        Part cutOff() {
            return new Part(up.mod(down), down);
        }
    }

    static final class Home {
        int area;
        int waterArea;
        int factor;
        int before = NONE;
        int known = NONE;
        Integer[] readings = new Integer[13];
        Integer[] changes = new Integer[12];

        boolean isRead() {
            List<Integer> there = new ArrayList<>();
            for (Integer reading : readings) {
                if (reading != null) {
                    there.add(reading);
                }
            }
            List<Integer> sorted = new ArrayList<>(there);
            sorted.sort(null);
            return readings[0] != null && readings[12] != null && sorted.equals(there);
        }

        int holder(int month) {
            for (int t = month; t >= 0; t--) {
                if (changes[t] != null) {
                    return changes[t];
                }
            }
            return before;
        }

        int spanOf(int month) {
            for (int t = month; t > 0; t--) {
                if (changes[t] != null) {
                    return t;
                }
            }
            return 0;
        }

        int stretchStart(int month) {
            int t = month;
            while (isRead() && readings[t] == null) {
                t--;
            }
            return isRead() ? t : 0;
        }

        int stretchEnd(int month) {
            int t = month + 1;
            while (isRead() && readings[t] == null) {
                t++;
            }
            return isRead() ? t : 12;
        }
    }

    private final List<Home> homes = new ArrayList<>();
    private List<int[]> layers = new ArrayList<>();
    private final List<Integer> paid = new ArrayList<>();
    private final int[] degrees = new int[12];
    private int stock = NONE;
    private int side = 0;
    private int litres = NONE;
    private int gap = 0;
    private int permille = 500;
    private int[] parts = null;
    private int[][] amounts = null;
    private int[] sum = new int[21];
    private int[] latest = new int[21];

    private static void check(boolean fine, RuntimeException otherwise) {
        if (!fine) {
            throw otherwise;
        }
    }

    private static void argument(boolean fine) {
        check(fine, new IllegalArgumentException());
    }

    private static void index(boolean fine) {
        check(fine, new IndexOutOfBoundsException());
    }

    private static void state(boolean fine) {
        check(fine, new IllegalStateException());
    }

    private static void room(boolean fine) {
        check(fine, new UnsupportedOperationException());
    }

    private static boolean in(int least, int value, int most) {
        return least <= value && value <= most;
    }

    private void home(int number) {
        index(in(0, number, homes.size() - 1));
    }

    int flat(int area, int waterArea, int factor) {
        argument(in(1, area, 50) && in(0, waterArea, 50) && in(1, factor, 2));
        room(homes.size() < 6);
        parts = null;
        Home home = new Home();
        home.area = area;
        home.waterArea = waterArea;
        home.factor = factor;
        homes.add(home);
        return homes.size() - 1;
    }

    int reading(int flat, int time, int value) {
        home(flat);
        index(in(0, time, 12));
        argument(in(-1, value, 99));
        parts = null;
        homes.get(flat).readings[time] = value == -1 ? null : Integer.valueOf(value);
        return 0;
    }

    int enter(int flat, int time) {
        home(flat);
        index(in(0, time, 11));
        state(homes.get(flat).changes[time] == null);
        room(paid.size() < 20);
        parts = null;
        homes.get(flat).changes[time] = paid.size();
        paid.add(0);
        return paid.size() - 1;
    }

    int leave(int flat, int time) {
        home(flat);
        index(in(0, time, 11));
        state(homes.get(flat).changes[time] == null);
        parts = null;
        homes.get(flat).changes[time] = NONE;
        return 0;
    }

    int deliver(int units, int cents) {
        argument(in(1, units, 1000) && in(0, cents, 20000));
        room(layers.size() < 12);
        parts = null;
        layers.add(new int[] {units, cents});
        return 0;
    }

    private int units() {
        return layers.stream().mapToInt(layer -> layer[0]).sum();
    }

    int endStock(int units) {
        argument(in(-1, units, units()));
        parts = null;
        stock = units;
        return 0;
    }

    int sideCosts(int cents) {
        argument(in(0, cents, 20000));
        parts = null;
        side = cents;
        return 0;
    }

    int water(int l, int g) {
        argument(in(-1, l, 10000000) && in(0, g, 100));
        parts = null;
        litres = l;
        gap = g;
        return 0;
    }

    int permille(int p) {
        argument(in(300, p, 700));
        parts = null;
        permille = p;
        return 0;
    }

    int degrees(int month, int d) {
        index(in(0, month, 11));
        argument(in(0, d, 100));
        parts = null;
        degrees[month] = d;
        return 0;
    }

    int prepay(int tenant, int cents) {
        index(in(0, tenant, paid.size() - 1));
        argument(in(0, cents, 20000) && paid.get(tenant) + cents <= 1000000);
        paid.set(tenant, paid.get(tenant) + cents);
        return 0;
    }

    /** The layers of the end stock, found by taking single units from the newest layer on. */
    private List<int[]> stockLayers() {
        List<int[]> kept = new ArrayList<>();
        int left = stock;
        for (int i = layers.size() - 1; i >= 0 && left > 0; i--) {
            int[] layer = layers.get(i);
            int v = 0;
            while (v < layer[0] && left > 0) {
                v++;
                left--;
            }
            kept.add(0, new int[] {v, (int) ((long) layer[1] * v / layer[0])});
        }
        return kept;
    }

    int replaced(int flat) {
        home(flat);
        return kind(homes.get(flat));
    }

    private int[] pairs() {
        int l = 0;
        int t = 0;
        for (Home home : homes) {
            if (home.isRead() && home.known != NONE) {
                l += home.known;
                t += (home.readings[12] - home.readings[0]) * home.factor;
            }
        }
        return new int[] {l, t};
    }

    private int kind(Home home) {
        if (home.isRead()) {
            return 0;
        }
        int[] pairs = pairs();
        if (home.known != NONE && pairs[0] > 0 && pairs[1] > 0) {
            return 1;
        }
        return homes.stream().anyMatch(Home::isRead) ? 2 : 3;
    }

    private Part unitsOf(Home home) {
        int[] pairs = pairs();
        int kind = kind(home);
        Part found = Part.ZERO;
        if (kind == 0) {
            return Part.of((home.readings[12] - home.readings[0]) * home.factor, 1);
        }
        if (kind == 1) {
            found = Part.of((long) home.known * pairs[1], pairs[0]);
        }
        if (kind == 2) {
            int u = 0;
            int s = 0;
            for (Home other : homes) {
                if (other.isRead()) {
                    u += (other.readings[12] - other.readings[0]) * other.factor;
                    s += other.area;
                }
            }
            found = Part.of((long) home.area * u, s);
        }
        return found.compare(Part.of(200, 1)) > 0 ? Part.of(200, 1) : found;
    }

    private Part allUnits() {
        Part all = Part.ZERO;
        for (Home home : homes) {
            all = all.plus(unitsOf(home));
        }
        return all;
    }

    private boolean isByArea() {
        int all = 0;
        int others = 0;
        for (Home home : homes) {
            if (kind(home) == 3) {
                return true;
            }
            all += home.area;
            others += kind(home) == 0 ? 0 : home.area;
        }
        return 4 * others > all || allUnits().up().signum() == 0;
    }

    private boolean needsDegrees() {
        for (Home home : homes) {
            for (int m = 0; m < 12; m++) {
                for (int n = 0; n < 12; n++) {
                    if (home.stretchStart(m) == home.stretchStart(n)
                            && home.spanOf(m) != home.spanOf(n)) {
                        return true;
                    }
                }
            }
        }
        return false;
    }

    /** What a month of a flat has of the metered part by meters. */
    private Part monthUnits(Home home, int month) {
        int from = home.stretchStart(month);
        int to = home.stretchEnd(month);
        Part units = home.isRead()
                ? Part.of((home.readings[to] - home.readings[from]) * home.factor, 1)
                : unitsOf(home);
        int all = 0;
        for (int m = from; m < to; m++) {
            all += degrees[m];
        }
        return units.times(all == 0 ? Part.of(1, to - from) : Part.of(degrees[month], all));
    }

    private Part monthWeight(Home home, int month, int what) {
        if (what == 0) {
            return Part.of(home.area, 1);
        }
        return what == 2 ? Part.of(home.waterArea, 1) : monthUnits(home, month);
    }

    /** Shares cents by the weights of the months: what is 0 area, 1 meters, 2 water area. */
    private void share(int cents, int what, int into) {
        List<Part> weights = new ArrayList<>();
        List<Integer> holders = new ArrayList<>();
        Part all = Part.ZERO;
        for (Home home : homes) {
            for (int m = 0; m < 12; m++) {
                Part weight = monthWeight(home, m, what);
                all = all.plus(weight);
                if (home.spanOf(m) == m) {
                    weights.add(Part.ZERO);
                    holders.add(home.holder(m));
                }
                int last = weights.size() - 1;
                weights.set(last, weights.get(last).plus(weight));
            }
        }
        int left = cents;
        List<Integer> order = new ArrayList<>();
        for (int i = 0; i < weights.size(); i++) {
            weights.set(i, weights.get(i).times(Part.of(cents, 1)).by(all));
            int down = weights.get(i).floor();
            amounts[into][holders.get(i) + 1] += down;
            left -= down;
            order.add(i);
        }
        order.sort((i, j) -> weights.get(j).cutOff().compare(weights.get(i).cutOff()));
        for (int n = 0; n < left; n++) {
            amounts[into][holders.get(order.get(n)) + 1]++;
        }
    }

    int bill() {
        if (homes.isEmpty() || stock == NONE || units() - stock <= 0) {
            return NONE;
        }
        boolean byArea = isByArea();
        if (!byArea && needsDegrees() && Arrays.stream(degrees).sum() != 100) {
            return NONE;
        }
        int burned = units() - stock;
        int cost = side + layers.stream().mapToInt(layer -> layer[1]).sum()
                - stockLayers().stream().mapToInt(layer -> layer[1]).sum();
        long waterUnits = litres == NONE ? 180 * burned / 1000
                : Math.min((long) litres * gap * 115 / 100000, 400 * burned / 1000);
        int waterPart = (int) (cost * waterUnits / burned);
        int fixed = (int) ((long) (cost - waterPart) * permille / 1000);
        parts = new int[] {burned, cost, waterPart, fixed, cost - waterPart - fixed};
        amounts = new int[3][21];
        share(parts[3], 0, 0);
        share(parts[4], byArea ? 0 : 1, 1);
        share(parts[2], homes.stream().allMatch(home -> home.waterArea == 0) ? 0 : 2, 2);
        return byArea ? 2 : 0;
    }

    private int all(int tenant) {
        return amounts[0][tenant + 1] + amounts[1][tenant + 1] + amounts[2][tenant + 1];
    }

    int amount(int tenant, int what) {
        state(parts != null);
        index(in(-1, tenant, paid.size() - 1) && in(0, what, 3));
        return what == 3 ? all(tenant) : amounts[what][tenant + 1];
    }

    int paid(int tenant) {
        index(in(0, tenant, paid.size() - 1));
        return paid.get(tenant);
    }

    int part(int what) {
        state(parts != null);
        index(in(0, what, 4));
        return parts[what];
    }

    int send() {
        state(parts != null);
        int others = 0;
        for (int t = -1; t < paid.size(); t++) {
            latest[t + 1] = all(t) - sum[t + 1];
            sum[t + 1] = all(t);
            others += latest[t + 1] == 0 ? 0 : 1;
        }
        return others;
    }

    int sent(int tenant) {
        index(in(-1, tenant, paid.size() - 1));
        return latest[tenant + 1];
    }

    int closeYear() {
        state(parts != null);
        List<Integer> units = new ArrayList<>();
        for (Home home : homes) {
            units.add(kind(home) == 3 ? 0 : unitsOf(home).floor());
        }
        for (int f = 0; f < homes.size(); f++) {
            Home home = homes.get(f);
            home.known = units.get(f) >= 1 ? units.get(f) : NONE;
            home.before = home.holder(11);
            home.changes = new Integer[12];
            Integer end = home.readings[12];
            home.readings = new Integer[13];
            home.readings[0] = end;
        }
        layers = stockLayers();
        paid.replaceAll(cents -> 0);
        sum = new int[21];
        latest = new int[21];
        stock = NONE;
        litres = NONE;
        side = 0;
        parts = null;
        return units();
    }

    int known(int flat) {
        home(flat);
        return homes.get(flat).known;
    }
}
