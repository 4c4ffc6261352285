import java.util.Arrays;

/**
 * A house's heating bill, shared to the cent among the tenants and the landlord.
 *
 * All rows are made once, with the object, and used again by every call: a call makes nothing but
 * the exception that it throws.
 */
public final class HeatShares {
    public static final int NONE = -1;
    public static final int READ = 0, LAST = 1, LIKE = 2, CANNOT = 3;

    private static final int MONTHS = 12;
    private static final int YEAR_END = 12;
    private static final int MOST_FLATS = 6;
    private static final int MOST_TENANTS = 20;
    private static final int MOST_LAYERS = 12;
    private static final int MOST_SPANS = MOST_FLATS * MONTHS;

    private static final int MOST_AREA = 50;
    private static final int MOST_FACTOR = 2;
    private static final int MOST_READING = 99;
    private static final int MOST_LAYER_UNITS = 1000;
    private static final int MOST_CENTS = 20000;
    private static final int MOST_PAID = 1000000;
    private static final int MOST_LITRES = 10000000;
    private static final int MOST_GAP = 100;
    private static final int LEAST_PERMILLE = 300;
    private static final int MOST_PERMILLE = 700;
    private static final int MOST_DEGREES = 100;
    private static final int DEGREES_OF_YEAR = 100;
    private static final int MOST_REPLACED_UNITS = 200;

    private static final int BY_METERS = 0;
    private static final int BY_AREA = 2;

    private static final int FIXED = 0;
    private static final int METERED = 1;
    private static final int WATER = 2;
    private static final int ALL_THREE = 3;

    private static final int BURNED = 0;
    private static final int COST = 1;
    private static final int WATER_PART = 2;
    private static final int FIXED_PART = 3;
    private static final int METERED_PART = 4;
    private static final int PARTS = 5;

    private final House house = new House();
    private final Fuel fuel = new Fuel();
    private final Meters meters = new Meters();
    private final Spans spans = new Spans();
    private final Shares shares = new Shares();
    private final Accounts accounts = new Accounts();
    private final int[] monthDegrees = new int[MONTHS];
    private final int[] billParts = new int[PARTS];
    private int sideCents = 0;
    private int waterLitres = NONE;
    private int waterGap = 0;
    private int fixedPermille = 500;
    private boolean billed = false;

    public HeatShares() {
    }

    public int flat(int area, int waterArea, int factor)
            throws IllegalArgumentException, UnsupportedOperationException {
        if (isOutside(area, 1, MOST_AREA) || isOutside(waterArea, 0, MOST_AREA)
                || isOutside(factor, 1, MOST_FACTOR)) {
            throw new IllegalArgumentException("area, water area or factor");
        }
        if (house.count >= MOST_FLATS) {
            throw new UnsupportedOperationException("six flats");
        }
        billed = false;
        return house.addFlat(area, waterArea, factor);
    }

    public void reading(int flat, int time, int value)
            throws IndexOutOfBoundsException, IllegalArgumentException {
        needFlat(flat);
        if (isOutside(time, 0, YEAR_END)) {
            throw new IndexOutOfBoundsException("time");
        }
        if (isOutside(value, NONE, MOST_READING)) {
            throw new IllegalArgumentException("value");
        }
        billed = false;
        house.flats[flat].readings[time] = value;
    }

    public int enter(int flat, int time)
            throws IndexOutOfBoundsException, IllegalStateException, UnsupportedOperationException {
        needRoomForChange(flat, time);
        if (accounts.tenants >= MOST_TENANTS) {
            throw new UnsupportedOperationException("twenty tenants");
        }
        billed = false;
        int tenant = accounts.addTenant();
        house.flats[flat].changes[time] = tenant;
        return tenant;
    }

    public void leave(int flat, int time) throws IndexOutOfBoundsException, IllegalStateException {
        needRoomForChange(flat, time);
        billed = false;
        house.flats[flat].changes[time] = NONE;
    }

    public void deliver(int units, int cents)
            throws IllegalArgumentException, UnsupportedOperationException {
        if (isOutside(units, 1, MOST_LAYER_UNITS) || isOutside(cents, 0, MOST_CENTS)) {
            throw new IllegalArgumentException("units or cents");
        }
        if (fuel.layers >= MOST_LAYERS) {
            throw new UnsupportedOperationException("twelve layers");
        }
        billed = false;
        fuel.addLayer(units, cents);
    }

    public void endStock(int units) throws IllegalArgumentException {
        if (isOutside(units, NONE, fuel.allUnits())) {
            throw new IllegalArgumentException("units");
        }
        billed = false;
        fuel.stock = units;
    }

    public void sideCosts(int cents) throws IllegalArgumentException {
        if (isOutside(cents, 0, MOST_CENTS)) {
            throw new IllegalArgumentException("cents");
        }
        billed = false;
        sideCents = cents;
    }

    public void water(int litres, int gap) throws IllegalArgumentException {
        if (isOutside(litres, NONE, MOST_LITRES) || isOutside(gap, 0, MOST_GAP)) {
            throw new IllegalArgumentException("litres or gap");
        }
        billed = false;
        waterLitres = litres;
        waterGap = gap;
    }

    public void permille(int p) throws IllegalArgumentException {
        if (isOutside(p, LEAST_PERMILLE, MOST_PERMILLE)) {
            throw new IllegalArgumentException("permille");
        }
        billed = false;
        fixedPermille = p;
    }

    public void degrees(int month, int d)
            throws IndexOutOfBoundsException, IllegalArgumentException {
        if (isOutside(month, 0, MONTHS - 1)) {
            throw new IndexOutOfBoundsException("month");
        }
        if (isOutside(d, 0, MOST_DEGREES)) {
            throw new IllegalArgumentException("degrees");
        }
        billed = false;
        monthDegrees[month] = d;
    }

    public void prepay(int tenant, int cents)
            throws IndexOutOfBoundsException, IllegalArgumentException {
        needTenant(tenant);
        if (isOutside(cents, 0, MOST_CENTS)
                || accounts.paidBefore[tenant] + cents > MOST_PAID) {
            throw new IllegalArgumentException("cents");
        }
        accounts.paidBefore[tenant] += cents;
    }

    public int bill() {
        if (house.count == 0 || !fuel.isBurned()) {
            return NONE;
        }
        meters.look(house);
        spans.lay(house);
        boolean byMeters = meters.areFitFor(house);
        if (byMeters && spans.cutStretches(house, meters) && !hasDegreesOfYear()) {
            return NONE;
        }
        setBillParts();
        shareParts(byMeters);
        billed = true;
        return byMeters ? BY_METERS : BY_AREA;
    }

    public int amount(int tenant, int what)
            throws IllegalStateException, IndexOutOfBoundsException {
        needBill();
        needTenantOrLandlord(tenant);
        if (isOutside(what, FIXED, ALL_THREE)) {
            throw new IndexOutOfBoundsException("what");
        }
        if (what == ALL_THREE) {
            return accounts.owedInAll(tenant);
        }
        return accounts.owed[what][tenant + 1];
    }

    public int paid(int tenant) throws IndexOutOfBoundsException {
        needTenant(tenant);
        return accounts.paidBefore[tenant];
    }

    public int part(int what) throws IllegalStateException, IndexOutOfBoundsException {
        needBill();
        if (isOutside(what, BURNED, METERED_PART)) {
            throw new IndexOutOfBoundsException("what");
        }
        return billParts[what];
    }

    public int replaced(int flat) throws IndexOutOfBoundsException {
        needFlat(flat);
        meters.look(house);
        return meters.kinds[flat];
    }

    public int send() throws IllegalStateException {
        needBill();
        return accounts.post();
    }

    public int sent(int tenant) throws IndexOutOfBoundsException {
        needTenantOrLandlord(tenant);
        return accounts.latest[tenant + 1];
    }

    public int closeYear() throws IllegalStateException {
        needBill();
        accounts.post();
        accounts.startYear();
        meters.look(house);
        for (int f = 0; f < house.count; f++) {
            house.flats[f].startYear(meters.wholeUnits(f));
        }
        fuel.keepStock();
        waterLitres = NONE;
        sideCents = 0;
        billed = false;
        return fuel.allUnits();
    }

    public int known(int flat) throws IndexOutOfBoundsException {
        needFlat(flat);
        return house.flats[flat].lastUnits;
    }

    private static boolean isOutside(int value, int least, int most) {
        return value < least || value > most;
    }

    private void needFlat(int flat) {
        if (isOutside(flat, 0, house.count - 1)) {
            throw new IndexOutOfBoundsException("flat");
        }
    }

    private void needRoomForChange(int flat, int time) {
        needFlat(flat);
        if (isOutside(time, 0, YEAR_END - 1)) {
            throw new IndexOutOfBoundsException("time");
        }
        if (house.flats[flat].hasChange(time)) {
            throw new IllegalStateException("a change at that time");
        }
    }

    private void needTenant(int tenant) {
        if (isOutside(tenant, 0, accounts.tenants - 1)) {
            throw new IndexOutOfBoundsException("tenant");
        }
    }

    private void needTenantOrLandlord(int tenant) {
        if (isOutside(tenant, NONE, accounts.tenants - 1)) {
            throw new IndexOutOfBoundsException("tenant");
        }
    }

    private void needBill() {
        if (!billed) {
            throw new IllegalStateException("no bill");
        }
    }

    private boolean hasDegreesOfYear() {
        int sum = 0;
        for (int m = 0; m < MONTHS; m++) {
            sum += monthDegrees[m];
        }
        return sum == DEGREES_OF_YEAR;
    }

    private void setBillParts() {
        int burned = fuel.burnedUnits();
        int cost = fuel.burnedCents() + sideCents;
        int waterPart = burned > 0 ? (int) ((long) cost * waterUnits(burned) / burned) : 0;
        int fixedPart = (int) ((long) (cost - waterPart) * fixedPermille / 1000);
        billParts[BURNED] = burned;
        billParts[COST] = cost;
        billParts[WATER_PART] = waterPart;
        billParts[FIXED_PART] = fixedPart;
        billParts[METERED_PART] = cost - waterPart - fixedPart;
    }

    private int waterUnits(int burned) {
        if (waterLitres == NONE) {
            return 180 * burned / 1000;
        }
        long measured = (long) waterLitres * waterGap * 115 / 100000;
        return (int) Math.min(measured, 400 * burned / 1000);
    }

    private void shareParts(boolean byMeters) {
        accounts.clearOwed();
        shares.weighByArea(house, spans);
        sharePart(billParts[FIXED_PART], FIXED);
        if (!byMeters) {
            sharePart(billParts[METERED_PART], METERED);
        }
        if (house.hasWaterArea()) {
            shares.weighByWaterArea(house, spans);
        }
        sharePart(billParts[WATER_PART], WATER);
        if (byMeters) {
            shares.weighByMeters(house, spans, meters, monthDegrees);
            sharePart(billParts[METERED_PART], METERED);
        }
    }

    private void sharePart(int cents, int what) {
        shares.split(cents, spans.count);
        for (int s = 0; s < spans.count; s++) {
            accounts.owed[what][spans.holder[s] + 1] += shares.cents[s];
        }
    }

    /** A flat with its meter, its changes, and what is left of its last year. */
    private static final class Flat {
        static final int NO_CHANGE = -2;

        int area = 0;
        int waterArea = 0;
        int factor = 1;
        int firstHolder = NONE;
        int lastUnits = NONE;
        final int[] readings = new int[YEAR_END + 1];
        final int[] changes = new int[MONTHS];

        Flat() {
            Arrays.fill(readings, NONE);
            Arrays.fill(changes, NO_CHANGE);
        }

        boolean hasChange(int time) {
            return changes[time] != NO_CHANGE;
        }

        boolean isMeterRead() {
            if (readings[0] == NONE || readings[YEAR_END] == NONE) {
                return false;
            }
            int before = readings[0];
            for (int t = 1; t <= YEAR_END; t++) {
                if (readings[t] != NONE) {
                    if (readings[t] < before) {
                        return false;
                    }
                    before = readings[t];
                }
            }
            return true;
        }

        int unitsBetween(int from, int to) {
            return (readings[to] - readings[from]) * factor;
        }

        int unitsOfYear() {
            return unitsBetween(0, YEAR_END);
        }

        int holderAtEnd() {
            int holder = firstHolder;
            for (int t = 0; t < MONTHS; t++) {
                if (hasChange(t)) {
                    holder = changes[t];
                }
            }
            return holder;
        }

        void startYear(int unitsOfLastYear) {
            firstHolder = holderAtEnd();
            lastUnits = unitsOfLastYear;
            int atEnd = readings[YEAR_END];
            Arrays.fill(readings, NONE);
            readings[0] = atEnd;
            Arrays.fill(changes, NO_CHANGE);
        }
    }

    /** The flats, in their order. */
    private static final class House {
        final Flat[] flats = new Flat[MOST_FLATS];
        int count = 0;

        House() {
            for (int f = 0; f < MOST_FLATS; f++) {
                flats[f] = new Flat();
            }
        }

        int addFlat(int area, int waterArea, int factor) {
            int number = count;
            Flat added = flats[number];
            added.area = area;
            added.waterArea = waterArea;
            added.factor = factor;
            count++;
            return number;
        }

        int allArea() {
            int sum = 0;
            for (int f = 0; f < count; f++) {
                sum += flats[f].area;
            }
            return sum;
        }

        boolean hasWaterArea() {
            for (int f = 0; f < count; f++) {
                if (flats[f].waterArea > 0) {
                    return true;
                }
            }
            return false;
        }
    }

    /** The layers of fuel, the oldest first, and the end stock. */
    private static final class Fuel {
        final int[] units = new int[MOST_LAYERS];
        final int[] cents = new int[MOST_LAYERS];
        int layers = 0;
        int stock = NONE;

        void addLayer(int layerUnits, int layerCents) {
            units[layers] = layerUnits;
            cents[layers] = layerCents;
            layers++;
        }

        int allUnits() {
            int sum = 0;
            for (int i = 0; i < layers; i++) {
                sum += units[i];
            }
            return sum;
        }

        boolean isBurned() {
            return stock != NONE && burnedUnits() > 0;
        }

        int burnedUnits() {
            return allUnits() - stock;
        }

        int burnedCents() {
            int sum = 0;
            for (int i = 0; i < layers; i++) {
                sum += cents[i] - stockCents(i);
            }
            return sum;
        }

        int stockUnits(int layer) {
            int left = stock;
            for (int i = layers - 1; i > layer; i--) {
                left -= units[i];
            }
            return Math.max(0, Math.min(units[layer], left));
        }

        int stockCents(int layer) {
            int inStock = stockUnits(layer);
            if (inStock <= 0) {
                return 0;
            }
            if (inStock >= units[layer]) {
                return cents[layer];
            }
            return cents[layer] * inStock / units[layer];
        }

        /** Goes from the oldest layer on: what a layer has in the stock hangs on newer ones alone. */
        void keepStock() {
            int kept = 0;
            for (int i = 0; i < layers; i++) {
                int inStock = stockUnits(i);
                if (inStock > 0) {
                    cents[kept] = stockCents(i);
                    units[kept] = inStock;
                    kept++;
                }
            }
            layers = kept;
            stock = NONE;
        }
    }

    /**
     * How each meter is read or replaced, and its units. Units are fractions; all are kept over one
     * denominator, the scale, so that they stay exact.
     */
    private static final class Meters {
        final int[] kinds = new int[MOST_FLATS];
        final long[] units = new long[MOST_FLATS];
        long scale = 1;
        long allUnits = 0;
        private int readUnits = 0;
        private int readArea = 0;
        private int pairedUnits = 0;
        private int pairedLastUnits = 0;

        void look(House house) {
            sumRead(house);
            long lastScale = pairedLastUnits > 0 ? pairedLastUnits : 1;
            long likeScale = readArea > 0 ? readArea : 1;
            scale = lastScale * likeScale;
            allUnits = 0;
            for (int f = 0; f < house.count; f++) {
                Flat flat = house.flats[f];
                kinds[f] = kindOf(flat);
                units[f] = scaledUnits(flat, kinds[f], lastScale, likeScale);
                allUnits += units[f];
            }
        }

        private void sumRead(House house) {
            readUnits = 0;
            readArea = 0;
            pairedUnits = 0;
            pairedLastUnits = 0;
            for (int f = 0; f < house.count; f++) {
                Flat flat = house.flats[f];
                if (flat.isMeterRead()) {
                    readUnits += flat.unitsOfYear();
                    readArea += flat.area;
                    if (flat.lastUnits != NONE) {
                        pairedUnits += flat.unitsOfYear();
                        pairedLastUnits += flat.lastUnits;
                    }
                }
            }
        }

        private int kindOf(Flat flat) {
            if (flat.isMeterRead()) {
                return READ;
            }
            if (flat.lastUnits != NONE && pairedUnits > 0 && pairedLastUnits > 0) {
                return LAST;
            }
            return readArea > 0 ? LIKE : CANNOT;
        }

        private long scaledUnits(Flat flat, int kind, long lastScale, long likeScale) {
            long most = MOST_REPLACED_UNITS * scale;
            switch (kind) {
                case READ:
                    return flat.unitsOfYear() * scale;
                case LAST:
                    return Math.min(most, (long) flat.lastUnits * pairedUnits * likeScale);
                case LIKE:
                    return Math.min(most, (long) flat.area * readUnits * lastScale);
                default:
                    return 0;
            }
        }

        /** Whether the metered part is shared by meters. */
        boolean areFitFor(House house) {
            int replacedArea = 0;
            for (int f = 0; f < house.count; f++) {
                if (kinds[f] == CANNOT) {
                    return false;
                }
                if (kinds[f] != READ) {
                    replacedArea += house.flats[f].area;
                }
            }
            return 4 * replacedArea <= house.allArea() && allUnits > 0;
        }

        /** A flat's units as the next year knows them. */
        int wholeUnits(int flat) {
            long whole = scale > 0 ? units[flat] / scale : 0;
            return whole > 0 ? (int) whole : NONE;
        }

        boolean endsStretch(Flat flat, int number, int time) {
            return time == YEAR_END || kinds[number] == READ && flat.readings[time] != NONE;
        }

        long stretchUnits(Flat flat, int number, int from, int to) {
            return kinds[number] == READ ? flat.unitsBetween(from, to) * scale : units[number];
        }
    }

    /** The spans of all flats, by flat and then by time: the order in which equal fractions go. */
    private static final class Spans {
        final int[] flat = new int[MOST_SPANS];
        final int[] from = new int[MOST_SPANS];
        final int[] to = new int[MOST_SPANS];
        final int[] holder = new int[MOST_SPANS];
        int count = 0;

        void lay(House house) {
            count = 0;
            for (int f = 0; f < house.count; f++) {
                layFlat(f, house.flats[f]);
            }
        }

        private void layFlat(int number, Flat laid) {
            int begin = 0;
            int who = laid.hasChange(0) ? laid.changes[0] : laid.firstHolder;
            for (int t = 1; t < YEAR_END; t++) {
                if (laid.hasChange(t)) {
                    addSpan(number, begin, t, who);
                    begin = t;
                    who = laid.changes[t];
                }
            }
            addSpan(number, begin, YEAR_END, who);
        }

        private void addSpan(int number, int begin, int end, int who) {
            if (count >= MOST_SPANS) {
                return;
            }
            flat[count] = number;
            from[count] = begin;
            to[count] = end;
            holder[count] = who;
            count++;
        }

        int months(int span) {
            return to[span] - from[span];
        }

        /** Whether some stretch has months of more than one span. */
        boolean cutStretches(House house, Meters meters) {
            for (int s = 0; s < count; s++) {
                int number = flat[s];
                if (from[s] > 0 && !meters.endsStretch(house.flats[number], number, from[s])) {
                    return true;
                }
            }
            return false;
        }
    }

    /**
     * The shares of one part. A span's share is to the part as weight / divisor to the sum of all of
     * these. Only the first and the last stretch of a span can be cut, by degrees that are 100 in
     * the year, so a divisor is at most 2500 and all products stay far inside a long.
     */
    private static final class Shares {
        final int[] cents = new int[MOST_SPANS];
        private final long[] weight = new long[MOST_SPANS];
        private final long[] divisor = new long[MOST_SPANS];
        private final long[] cutOff = new long[MOST_SPANS];
        private long allWeight = 0;

        void weighByArea(House house, Spans spans) {
            allWeight = 0;
            for (int s = 0; s < spans.count; s++) {
                setWhole(s, house.flats[spans.flat[s]].area * spans.months(s));
            }
        }

        void weighByWaterArea(House house, Spans spans) {
            allWeight = 0;
            for (int s = 0; s < spans.count; s++) {
                setWhole(s, house.flats[spans.flat[s]].waterArea * spans.months(s));
            }
        }

        private void setWhole(int span, int wholeWeight) {
            weight[span] = wholeWeight;
            divisor[span] = 1;
            allWeight += wholeWeight;
        }

        void weighByMeters(House house, Spans spans, Meters meters, int[] degrees) {
            allWeight = meters.allUnits;
            for (int s = 0; s < spans.count; s++) {
                weight[s] = 0;
                divisor[s] = 1;
                int number = spans.flat[s];
                Flat flat = house.flats[number];
                int begin = 0;
                for (int t = 1; t <= YEAR_END; t++) {
                    if (meters.endsStretch(flat, number, t)) {
                        long units = meters.stretchUnits(flat, number, begin, t);
                        addStretch(spans, s, begin, t, units, degrees);
                        begin = t;
                    }
                }
            }
        }

        private void addStretch(Spans spans, int span, int begin, int end, long units,
                int[] degrees) {
            int from = Math.max(begin, spans.from[span]);
            int to = Math.min(end, spans.to[span]);
            if (from >= to) {
                return;
            }
            if (from == begin && to == end) {
                weight[span] += units * divisor[span];
                return;
            }
            long own = sumBetween(degrees, from, to);
            long all = sumBetween(degrees, begin, end);
            if (all == 0) {
                own = to - from;
                all = end - begin;
            }
            weight[span] = weight[span] * all + units * own * divisor[span];
            divisor[span] *= all;
        }

        private static int sumBetween(int[] degrees, int from, int to) {
            int sum = 0;
            for (int m = from; m < to; m++) {
                sum += degrees[m];
            }
            return sum;
        }

        void split(int part, int count) {
            int left = part;
            for (int s = 0; s < count; s++) {
                roundDown(part, s);
                left -= cents[s];
            }
            for (int n = 0; n < count && left > 0; n++) {
                int span = greatestCutOff(count);
                cents[span]++;
                cutOff[span] = 0;
                left--;
            }
        }

        private void roundDown(int part, int span) {
            long whole = allWeight * divisor[span];
            long share = part * weight[span];
            cents[span] = whole > 0 ? (int) (share / whole) : 0;
            cutOff[span] = whole > 0 ? share % whole : 0;
        }

        private int greatestCutOff(int count) {
            int greatest = 0;
            for (int s = 1; s < count; s++) {
                if (cutOff[s] * divisor[greatest] > cutOff[greatest] * divisor[s]) {
                    greatest = s;
                }
            }
            return greatest;
        }
    }

    /** What is owed, sent and paid. Rows that the landlord is in have him at 0, tenant t at t + 1. */
    private static final class Accounts {
        final int[][] owed = new int[ALL_THREE][MOST_TENANTS + 1];
        final int[] latest = new int[MOST_TENANTS + 1];
        final int[] paidBefore = new int[MOST_TENANTS];
        private final int[] sentInYear = new int[MOST_TENANTS + 1];
        int tenants = 0;

        int addTenant() {
            int number = tenants;
            tenants++;
            return number;
        }

        void clearOwed() {
            for (int what = 0; what < ALL_THREE; what++) {
                Arrays.fill(owed[what], 0);
            }
        }

        int owedInAll(int tenant) {
            int at = tenant + 1;
            return owed[FIXED][at] + owed[METERED][at] + owed[WATER][at];
        }

        int post() {
            int others = 0;
            for (int tenant = NONE; tenant < tenants; tenant++) {
                int at = tenant + 1;
                latest[at] = owedInAll(tenant) - sentInYear[at];
                sentInYear[at] += latest[at];
                if (latest[at] != 0) {
                    others++;
                }
            }
            return others;
        }

        void startYear() {
            Arrays.fill(latest, 0);
            Arrays.fill(sentInYear, 0);
            Arrays.fill(paidBefore, 0);
        }
    }
}
