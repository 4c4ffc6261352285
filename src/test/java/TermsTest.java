/**
 * 'Terms': each sentence there that names a bound, an empty or a full thing, in the document's order,
 * with the last case inside the bound and the first one outside.
 */
public final class TermsTest {
    private static final Class<IllegalArgumentException> ARGUMENT = IllegalArgumentException.class;
    private static final Class<IndexOutOfBoundsException> INDEX = IndexOutOfBoundsException.class;
    private static final Class<UnsupportedOperationException> FULL =
            UnsupportedOperationException.class;
    private static final int NONE = HeatShares.NONE;
    private static final Check check = new Check();

    public static void main(String[] args) {
        check.test("An object is used for at most 512 calls", TermsTest::calls512);
        yearAndFlats();
        spans();
        fuel();
        water();
        meters();
        cap200();
        byAreaOrByMeters();
        sharing();
        centsThatAreLeft();
        degrees();
        whenABillCanBeMade();
        check.end();
    }

    /** All parts of the full house are the same for each of its 72 spans: 180 + 410 + 410 cents. */
    private static void calls512() {
        HeatShares x = Houses.full();
        for (int calls = Houses.CALLS_OF_FULL; calls < 510; calls++) {
            check.same("bill", x.bill(), 0);
        }
        check.same("call 511", x.amount(19, 3), 1000);
        check.same("call 512", x.amount(NONE, 3), 52000);
    }

    private static void yearAndFlats() {
        check.test("A YEAR has MONTHS 0 .. 11", TermsTest::months);
        check.test("month 0 is the first, month 11 the last", TermsTest::firstAndLastMonth);
        check.test("and TIMES 0 .. 12", TermsTest::times);
        check.test("time t is the beginning of month t, 12 the end", TermsTest::allTimesRead);
        check.test("FLATS are numbered 0, 1, .. , 6 at most", TermsTest::flats);
        check.test("an AREA, 1 .. 50", TermsTest::areas);
        check.test("a WATER AREA, 0 .. 50", TermsTest::waterAreas);
        check.test("a FACTOR, 1 or 2", TermsTest::factors);
        check.test("READINGS, 0 .. 99", TermsTest::readings);
        check.test("TENANTS are numbered 0, 1, .. , 20 at most", TermsTest::tenants);
        check.test("TENANTS .. over all years", TermsTest::tenantsOfAllYears);
    }

    private static void months() {
        HeatShares x = new HeatShares();
        check.takesOnly(0, 11, INDEX, "degrees of month", m -> x.degrees(m, 1));
    }

    private static void firstAndLastMonth() {
        HeatShares x = readFlat(2000);
        x.enter(0, 1);
        x.degrees(0, 100);
        check.same("bill", x.bill(), 0);
        check.same("all degrees are before time 1", x.amount(0, 1), 0);
        HeatShares y = readFlat(2000);
        y.enter(0, 11);
        y.degrees(11, 100);
        check.same("bill", y.bill(), 0);
        check.same("all degrees are after time 11", y.amount(0, 1), 1000);
    }

    /** One flat whose meter has 10 units. */
    private static HeatShares readFlat(int cents) {
        HeatShares x = Houses.fuelled(cents);
        x.flat(10, 10, 1);
        Houses.read(x, 0, 0, 10);
        return x;
    }

    private static void times() {
        HeatShares x = new HeatShares();
        x.flat(1, 1, 1);
        check.takesOnly(0, 12, INDEX, "reading at time", t -> x.reading(0, t, 1));
        check.takesOnly(0, 11, INDEX, "enter at time", t -> x.enter(0, t));
        HeatShares y = new HeatShares();
        y.flat(1, 1, 1);
        check.takesOnly(0, 11, INDEX, "leave at time", t -> y.leave(0, t));
    }

    /** Month m has m + 1 units of 78 and a tenant of its own: no stretch is cut. */
    private static void allTimesRead() {
        HeatShares x = Houses.fuelled(15600);
        x.flat(10, 10, 1);
        for (int t = 0; t <= 12; t++) {
            x.reading(0, t, t * (t + 1) / 2);
        }
        for (int t = 0; t < 12; t++) {
            x.enter(0, t);
        }
        check.same("bill without degrees", x.bill(), 0);
        for (int t = 0; t < 12; t++) {
            check.same("metered of month " + t, x.amount(t, 1), 100 * (t + 1));
        }
        check.same("nothing is the landlord's", x.amount(NONE, 3), 0);
    }

    private static void flats() {
        HeatShares x = new HeatShares();
        check.refuses(INDEX, "flat 0 before there is one", () -> x.known(0));
        for (int f = 0; f < 6; f++) {
            check.same("the number", x.flat(1, 1, 1), f);
            int next = f + 1;
            check.takes("known(" + f + ")", () -> x.known(next - 1));
            check.refuses(INDEX, "known(" + next + ")", () -> x.known(next));
        }
        check.refuses(FULL, "flat 6", () -> x.flat(1, 1, 1));
        check.refuses(INDEX, "known(6)", () -> x.known(6));
    }

    private static void areas() {
        check.takesOnly(1, 50, ARGUMENT, "area", a -> new HeatShares().flat(a, 0, 1));
        HeatShares x = Houses.fuelled(10200);
        x.flat(1, 0, 1);
        x.flat(50, 0, 1);
        x.enter(0, 0);
        x.bill();
        check.same("area 1 of 51", x.amount(0, 0), 100);
        check.same("area 50 of 51", x.amount(NONE, 0), 5000);
    }

    private static void waterAreas() {
        check.takesOnly(0, 50, ARGUMENT, "water area", a -> new HeatShares().flat(1, a, 1));
        HeatShares x = new HeatShares();
        x.flat(50, 0, 1);
        x.flat(1, 1, 1);
        x.flat(1, 50, 1);
        for (int f = 0; f < 3; f++) {
            x.enter(f, 0);
        }
        x.deliver(100, 5100);
        x.endStock(0);
        x.bill();
        check.same("water part", x.part(2), 918);
        check.same("water area 0 of 51", x.amount(0, 2), 0);
        check.same("water area 1 of 51", x.amount(1, 2), 18);
        check.same("water area 50 of 51", x.amount(2, 2), 900);
    }

    private static void factors() {
        check.takesOnly(1, 2, ARGUMENT, "factor", k -> new HeatShares().flat(1, 0, k));
        HeatShares x = Houses.fuelled(600);
        x.flat(1, 0, 1);
        x.flat(1, 0, 2);
        Houses.read(x, 0, 0, 7);
        Houses.read(x, 1, 0, 7);
        x.enter(1, 0);
        x.bill();
        check.same("factor 2 of 3", x.amount(0, 1), 200);
        check.same("factor 1 of 3", x.amount(NONE, 1), 100);
    }

    private static void readings() {
        HeatShares x = new HeatShares();
        x.flat(1, 1, 2);
        check.takesOnly(-1, 99, ARGUMENT, "reading", v -> x.reading(0, 0, v));
        Houses.read(x, 0, 0, 99);
        check.same("0 and 99 are readings", x.replaced(0), HeatShares.READ);
        Houses.closeWithOneUnit(x, 1);
        check.same("99 units by factor 2", x.known(0), 198);
    }

    private static void tenants() {
        HeatShares x = new HeatShares();
        x.flat(1, 1, 1);
        x.flat(1, 1, 1);
        check.refuses(INDEX, "tenant 0 before there is one", () -> x.paid(0));
        for (int n = 0; n < 20; n++) {
            check.same("the number", x.enter(n / 12, n % 12), n);
            int next = n + 1;
            check.takes("paid(" + n + ")", () -> x.paid(next - 1));
            check.refuses(INDEX, "paid(" + next + ")", () -> x.paid(next));
        }
        check.refuses(FULL, "tenant 20", () -> x.enter(1, 8));
        check.refuses(INDEX, "paid(20)", () -> x.paid(20));
    }

    private static void tenantsOfAllYears() {
        HeatShares x = new HeatShares();
        x.flat(1, 1, 1);
        for (int n = 0; n < 12; n++) {
            x.enter(0, n);
        }
        Houses.closeWithOneUnit(x, 1);
        for (int n = 12; n < 20; n++) {
            check.same("the numbers go on", x.enter(0, n - 12), n);
        }
        check.refuses(FULL, "tenant 20 in the second year", () -> x.enter(0, 8));
        Houses.closeWithOneUnit(x, 1);
        check.refuses(FULL, "tenant 20 in the third year", () -> x.enter(0, 0));
        check.same("tenants of all years are there", x.paid(0) + x.paid(19), 0);
    }

    private static void spans() {
        check.test("At a time of 0 .. 11 a flat may have a CHANGE: twelve in all",
                TermsTest::twelveSpans);
        check.test("A SPAN goes from time 0 .. to 12: no change", TermsTest::oneSpan);
        check.test("A SPAN goes from a change: at 0 and at 11", TermsTest::firstAndLastChange);
        check.test("the one from time 0 in the first year is the landlord's",
                TermsTest::landlordFirst);
        check.test("the one from time 0, of whoever had it at the end of the last year",
                TermsTest::overTheYearsEnd);
        check.test(".. also through a year without a change", TermsTest::overTwoYearsEnds);
    }

    private static void twelveSpans() {
        HeatShares x = Houses.fuelled(2400);
        x.flat(10, 10, 1);
        for (int t = 11; t >= 0; t--) {
            x.enter(0, t);
        }
        x.bill();
        for (int tenant = 0; tenant < 12; tenant++) {
            check.same("one month's fixed", x.amount(tenant, 0), 100);
        }
        check.same("none is left", x.amount(NONE, 0), 0);
        HeatShares full = Houses.full();
        full.bill();
        check.same("72 spans: the cost is shared", full.part(1), 72000);
        check.same("72 spans: the last tenant's", full.amount(19, 3), 1000);
        check.same("72 spans: the landlord's 52", full.amount(NONE, 3), 52000);
    }

    private static void oneSpan() {
        HeatShares x = Houses.fuelled(2400);
        x.flat(10, 10, 1);
        x.bill();
        check.same("twelve months", x.amount(NONE, 0), 1200);
    }

    private static void firstAndLastChange() {
        HeatShares x = Houses.fuelled(2400);
        x.flat(10, 10, 1);
        x.enter(0, 0);
        x.enter(0, 11);
        x.bill();
        check.same("months 0 .. 10", x.amount(0, 0), 1100);
        check.same("month 11", x.amount(1, 0), 100);
        check.same("nothing before the change at 0", x.amount(NONE, 0), 0);
    }

    private static void landlordFirst() {
        HeatShares x = Houses.fuelled(2400);
        x.flat(10, 10, 1);
        x.enter(0, 1);
        x.bill();
        check.same("month 0", x.amount(NONE, 0), 100);
        check.same("months 1 .. 11", x.amount(0, 0), 1100);
    }

    private static void overTheYearsEnd() {
        HeatShares x = new HeatShares();
        for (int f = 0; f < 3; f++) {
            x.flat(10, 10, 1);
            x.enter(f, 0);
        }
        x.enter(1, 11);
        x.leave(2, 11);
        Houses.closeWithOneUnit(x, 1);
        Houses.refuel(x, 7200);
        x.bill();
        check.same("who came at 0 stays", x.amount(0, 0), 1200);
        check.same("who was followed at 11 does not", x.amount(1, 0), 0);
        check.same("who left at 11 does not", x.amount(2, 0), 0);
        check.same("who came at 11 stays", x.amount(3, 0), 1200);
        check.same("the flat left at 11 is empty", x.amount(NONE, 0), 1200);
        x.leave(0, 0);
        x.leave(1, 1);
        x.bill();
        check.same("left at 0: no month", x.amount(0, 0), 0);
        check.same("left at 1: one month", x.amount(3, 0), 100);
        check.same("the landlord's 35 months", x.amount(NONE, 0), 3500);
    }

    private static void overTwoYearsEnds() {
        HeatShares x = new HeatShares();
        x.flat(10, 10, 1);
        x.enter(0, 11);
        Houses.closeWithOneUnit(x, 1);
        Houses.closeWithOneUnit(x, 1);
        Houses.refuel(x, 2400);
        x.bill();
        check.same("the tenant's third year", x.amount(0, 0), 1200);
    }

    private static void fuel() {
        check.test("LAYERS .. 12 at most", TermsTest::layers);
        check.test("LAYERS .. those from the last year", TermsTest::layersOfTheLastYear);
        check.test("the END STOCK is taken from the newest layers on", TermsTest::newestLayers);
        check.test("of which v units are in the end stock (0 < v < u)", TermsTest::cutLayer);
        check.test("c * v / u cents, of the greatest layer", TermsTest::cutGreatestLayer);
        check.test("a layer of 0 cents", TermsTest::freeLayer);
        check.test("THE COST is that of all layers and the SIDE COSTS: none and most",
                TermsTest::leastAndMostCost);
    }

    private static void layers() {
        HeatShares x = new HeatShares();
        x.flat(1, 1, 1);
        for (int n = 0; n < 12; n++) {
            check.takes("layer " + n, () -> x.deliver(1, 1));
        }
        check.refuses(FULL, "layer 12", () -> x.deliver(1, 1));
        x.endStock(0);
        x.bill();
        check.same("twelve units", x.part(0), 12);
    }

    private static void layersOfTheLastYear() {
        HeatShares x = new HeatShares();
        x.flat(1, 1, 1);
        for (int n = 0; n < 12; n++) {
            x.deliver(2, 100);
        }
        x.endStock(23);
        x.bill();
        check.same("units that lie there", x.closeYear(), 23);
        check.refuses(FULL, "twelve layers came over", () -> x.deliver(1, 1));
        x.endStock(22);
        x.bill();
        check.same("the oldest has half of its cents", x.part(1), 50);
        x.closeYear();
        check.takes("eleven layers came over", () -> x.deliver(1, 1));
        check.refuses(FULL, "twelve layers again", () -> x.deliver(1, 1));
        x.endStock(0);
        x.bill();
        x.closeYear();
        for (int n = 0; n < 12; n++) {
            check.takes("none came over", () -> x.deliver(1, 1));
        }
        check.refuses(FULL, "twelve new layers", () -> x.deliver(1, 1));
    }

    private static void newestLayers() {
        HeatShares x = new HeatShares();
        x.flat(1, 1, 1);
        x.deliver(3, 1000);
        x.deliver(1, 10);
        x.deliver(2, 200);
        int[] costs = {1210, 1110, 1010, 1000, 667, 334};
        for (int stock = 0; stock < 6; stock++) {
            checkCost(x, stock, 6 - stock, costs[stock]);
        }
        x.endStock(6);
        check.same("all units in the end stock", x.bill(), NONE);
    }

    private static void checkCost(HeatShares x, int stock, int burned, int cost) {
        x.endStock(stock);
        x.bill();
        check.same("burned with end stock " + stock, x.part(0), burned);
        check.same("cost with end stock " + stock, x.part(1), cost);
    }

    private static void cutLayer() {
        HeatShares x = new HeatShares();
        x.flat(1, 1, 1);
        x.deliver(1, 5000);
        x.deliver(7, 10);
        checkCost(x, 0, 8, 5010);
        checkCost(x, 1, 7, 5009);
        checkCost(x, 6, 2, 5002);
        checkCost(x, 7, 1, 5000);
    }

    private static void cutGreatestLayer() {
        HeatShares x = new HeatShares();
        x.flat(1, 1, 1);
        x.deliver(1000, 20000);
        checkCost(x, 999, 1, 20);
        checkCost(x, 1, 999, 19980);
        x.bill();
        check.same("units that lie there", x.closeYear(), 1);
        checkCost(x, 0, 1, 20);
    }

    private static void freeLayer() {
        HeatShares x = new HeatShares();
        x.flat(1, 1, 1);
        x.deliver(10, 0);
        checkCost(x, 9, 1, 0);
        check.same("a bill of nothing", x.amount(NONE, 3), 0);
        check.same("its units lie there", x.closeYear(), 9);
    }

    private static void leastAndMostCost() {
        HeatShares x = new HeatShares();
        x.flat(1, 1, 1);
        x.deliver(1000, 0);
        checkCost(x, 0, 1000, 0);
        HeatShares y = new HeatShares();
        y.flat(1, 1, 1);
        for (int n = 0; n < 12; n++) {
            y.deliver(1000, 20000);
        }
        y.sideCosts(20000);
        y.water(10000000, 100);
        y.permille(700);
        checkCost(y, 0, 12000, 260000);
        check.same("water part of 4800 of 12000 units", y.part(2), 104000);
        check.same("fixed part", y.part(3), 109200);
        check.same("metered part", y.part(4), 46800);
        check.same("all of it", y.amount(NONE, 3), 260000);
    }

    private static void water() {
        check.test("WATER UNITS are litres * gap * 115 / 100000, rounded down",
                TermsTest::measuredUnits);
        check.test("but at most 400 * burned / 1000, rounded down", TermsTest::mostWaterUnits);
        check.test("if litres are not measured, 180 * burned / 1000, rounded down",
                TermsTest::unitsNotMeasured);
        check.test("litres 0 are measured, and a gap of 0", TermsTest::noWater);
        check.test("the greatest litres and gap don't wrap around", TermsTest::mostWater);
        check.test("THE WATER PART .. rounded down; THE FIXED PART .. rounded down",
                TermsTest::partsRoundedDown);
    }

    /** A unit costs 10 cents, so that the water part tells the water units. */
    private static HeatShares burning(int units) {
        HeatShares x = new HeatShares();
        x.flat(10, 10, 1);
        x.deliver(units, 10 * units);
        x.endStock(0);
        return x;
    }

    private static void checkWaterUnits(HeatShares x, int litres, int gap, int units) {
        x.water(litres, gap);
        x.bill();
        check.same("water part of water(" + litres + ", " + gap + ")", x.part(2), 10 * units);
    }

    private static void measuredUnits() {
        HeatShares x = burning(100);
        checkWaterUnits(x, 869, 1, 0);
        checkWaterUnits(x, 870, 1, 1);
        checkWaterUnits(x, 19999, 1, 22);
        checkWaterUnits(x, 20000, 1, 23);
        checkWaterUnits(x, 1, 100, 0);
        checkWaterUnits(x, 200, 99, 22);
        checkWaterUnits(x, 200, 100, 23);
        HeatShares most = burningMost();
        checkWaterUnits(most, 3478260, 1, 3999);
        checkWaterUnits(most, 3478261, 1, 4000);
    }

    /** As much as can be burned in a year. */
    private static HeatShares burningMost() {
        HeatShares x = new HeatShares();
        x.flat(10, 10, 1);
        for (int n = 0; n < 12; n++) {
            x.deliver(1000, 10000);
        }
        x.endStock(0);
        return x;
    }

    private static void mostWaterUnits() {
        HeatShares x = burning(100);
        checkWaterUnits(x, 34782, 1, 39);
        checkWaterUnits(x, 34783, 1, 40);
        checkWaterUnits(x, 35653, 1, 40);
        checkWaterUnits(burning(102), 40000, 1, 40);
        checkWaterUnits(burning(104), 40000, 1, 41);
        checkWaterUnits(burning(2), 40000, 1, 0);
        checkWaterUnits(burning(3), 40000, 1, 1);
        checkWaterUnits(burning(1), 40000, 1, 0);
        checkWaterUnits(burningMost(), 4173914, 1, 4800);
        checkWaterUnits(burningMost(), 4173913, 1, 4799);
        checkWaterUnits(burningMost(), 4174783, 1, 4800);
    }

    private static void unitsNotMeasured() {
        checkWaterUnits(burning(1), -1, 50, 0);
        checkWaterUnits(burning(5), -1, 50, 0);
        checkWaterUnits(burning(6), -1, 50, 1);
        checkWaterUnits(burning(11), -1, 50, 1);
        checkWaterUnits(burning(12), -1, 50, 2);
        checkWaterUnits(burning(100), -1, 0, 18);
        checkWaterUnits(burningMost(), -1, 0, 2160);
    }

    private static void noWater() {
        HeatShares x = burning(100);
        checkWaterUnits(x, 0, 100, 0);
        checkWaterUnits(x, 0, 0, 0);
        checkWaterUnits(x, 10000000, 0, 0);
        check.same("no water part to share", x.amount(NONE, 2), 0);
    }

    /** As an int the greatest product would be below 0, and that of 373476 litres 6704. */
    private static void mostWater() {
        HeatShares x = burning(100);
        checkWaterUnits(x, 10000000, 100, 40);
        checkWaterUnits(x, 373476, 100, 40);
        checkWaterUnits(x, 9999999, 99, 40);
    }

    private static void partsRoundedDown() {
        HeatShares x = new HeatShares();
        x.flat(10, 10, 1);
        x.deliver(6, 5);
        x.endStock(0);
        x.bill();
        check.same("5 * 1 / 6", x.part(2), 0);
        x.sideCosts(1);
        x.bill();
        check.same("6 * 1 / 6", x.part(2), 1);
        check.same("5 * 500 / 1000", x.part(3), 2);
        check.same("what is left", x.part(4), 3);
        x.permille(300);
        x.bill();
        check.same("5 * 300 / 1000", x.part(3), 1);
        x.permille(600);
        x.bill();
        check.same("5 * 600 / 1000", x.part(3), 3);
        x.permille(599);
        x.bill();
        check.same("5 * 599 / 1000", x.part(3), 2);
    }

    private static void meters() {
        check.test("A meter is READ, if it has readings at 0 and 12", TermsTest::readAtBothEnds);
        check.test("and none is less than one before it", TermsTest::noneIsLess);
        check.test("a meter that wraps around from 99 to 0 is not read", TermsTest::meterWraps);
        check.test("BY LAST YEAR, if last year's units of its flat are known",
                TermsTest::lastYearOfTheFlat);
        check.test("of flats with meters that are read and that are known, both above 0",
                TermsTest::lastYearOfTheOthers);
        check.test("known units * T / L: of meters that are read and known alone",
                TermsTest::lastYearSums);
        check.test("BY LIKE FLATS, if there is a meter that is read", TermsTest::likeFlats);
        check.test("Otherwise it CAN'T be", TermsTest::cannot);
    }

    private static void readAtBothEnds() {
        HeatShares x = new HeatShares();
        x.flat(10, 10, 1);
        check.same("no reading", x.replaced(0), HeatShares.CANNOT);
        for (int t = 1; t < 12; t++) {
            x.reading(0, t, 5);
        }
        check.same("neither at 0 nor at 12", x.replaced(0), HeatShares.CANNOT);
        x.reading(0, 0, 5);
        check.same("none at 12", x.replaced(0), HeatShares.CANNOT);
        x.reading(0, 12, 5);
        check.same("at all times", x.replaced(0), HeatShares.READ);
        x.reading(0, 0, -1);
        check.same("none at 0", x.replaced(0), HeatShares.CANNOT);
        x.reading(0, 0, 0);
        for (int t = 1; t < 12; t++) {
            x.reading(0, t, -1);
        }
        check.same("at 0 and 12 alone", x.replaced(0), HeatShares.READ);
    }

    private static void noneIsLess() {
        HeatShares x = new HeatShares();
        x.flat(10, 10, 1);
        Houses.read(x, 0, 50, 50);
        check.same("the last is the first", x.replaced(0), HeatShares.READ);
        x.reading(0, 12, 49);
        check.same("the last is less by 1", x.replaced(0), HeatShares.CANNOT);
        x.reading(0, 12, 60);
        for (int t = 1; t < 12; t++) {
            checkBetween(x, t, 49, HeatShares.CANNOT);
            checkBetween(x, t, 50, HeatShares.READ);
            checkBetween(x, t, 60, HeatShares.READ);
            checkBetween(x, t, 61, HeatShares.CANNOT);
            x.reading(0, t, -1);
        }
        x.reading(0, 5, 55);
        x.reading(0, 7, 54);
        check.same("two between, the later less", x.replaced(0), HeatShares.CANNOT);
        x.reading(0, 7, 55);
        check.same("two between, the same", x.replaced(0), HeatShares.READ);
    }

    private static void checkBetween(HeatShares x, int time, int value, int due) {
        x.reading(0, time, value);
        check.same("50, 60, and " + value + " at " + time, x.replaced(0), due);
    }

    private static void meterWraps() {
        HeatShares x = new HeatShares();
        x.flat(10, 10, 1);
        Houses.read(x, 0, 99, 0);
        check.same("99, 0", x.replaced(0), HeatShares.CANNOT);
        x.reading(0, 12, 98);
        check.same("99, 98", x.replaced(0), HeatShares.CANNOT);
        x.reading(0, 12, 99);
        check.same("99, 99", x.replaced(0), HeatShares.READ);
    }

    /** Known are 10, 30 and, by like flats, 25 units; flat 3 is of the second year. */
    private static HeatShares secondYear() {
        HeatShares x = new HeatShares();
        x.flat(40, 0, 1);
        x.flat(40, 0, 1);
        x.flat(50, 0, 1);
        Houses.read(x, 0, 0, 10);
        Houses.read(x, 1, 0, 30);
        x.reading(2, 12, 20);
        Houses.closeWithOneUnit(x, 1);
        x.flat(9, 0, 1);
        return x;
    }

    private static void lastYearOfTheFlat() {
        HeatShares x = secondYear();
        check.same("known by readings", x.known(0), 10);
        check.same("known by like flats: 50 * 40 / 80", x.known(2), 25);
        x.reading(0, 12, 11);
        check.same("read", x.replaced(0), HeatShares.READ);
        check.same("known by readings", x.replaced(1), HeatShares.LAST);
        check.same("known by like flats", x.replaced(2), HeatShares.LAST);
        check.same("not known", x.replaced(3), HeatShares.LIKE);
    }

    private static void lastYearOfTheOthers() {
        HeatShares x = secondYear();
        Houses.read(x, 3, 0, 5);
        check.same("L is 0: the read one is not known", x.replaced(1), HeatShares.LIKE);
        x.reading(0, 12, 10);
        check.same("T is 0: the known one has no units", x.replaced(1), HeatShares.LIKE);
        x.reading(0, 12, 11);
        check.same("T is 1", x.replaced(1), HeatShares.LAST);
        x.reading(3, 12, -1);
        check.same("the known one alone", x.replaced(1), HeatShares.LAST);
        x.reading(0, 12, -1);
        check.same("none is read", x.replaced(1), HeatShares.CANNOT);
    }

    private static void lastYearSums() {
        HeatShares x = secondYear();
        x.reading(0, 12, 30);
        Houses.read(x, 3, 0, 7);
        Houses.closeWithOneUnit(x, 1);
        check.same("30 * 20 / 10", x.known(1), 60);
        check.same("25 * 20 / 10", x.known(2), 50);
        HeatShares y = secondYear();
        y.reading(0, 12, 30);
        y.reading(1, 12, 31);
        Houses.closeWithOneUnit(y, 1);
        check.same("25 * 21 / 40, rounded down", y.known(2), 13);
        check.same("9 * 21 / 80, rounded down", y.known(3), 2);
    }

    private static void likeFlats() {
        HeatShares x = new HeatShares();
        x.flat(3, 0, 1);
        x.flat(1, 0, 1);
        check.same("no meter is read", x.replaced(1), HeatShares.CANNOT);
        Houses.read(x, 0, 7, 7);
        check.same("one is read, with no units", x.replaced(1), HeatShares.LIKE);
        Houses.closeWithOneUnit(x, 1);
        check.same("1 * 0 / 3", x.known(1), NONE);
        HeatShares all = new HeatShares();
        for (int f = 0; f < 6; f++) {
            all.flat(50, 0, 2);
        }
        for (int f = 0; f < 5; f++) {
            Houses.read(all, f, 0, 99);
        }
        Houses.closeWithOneUnit(all, 1);
        check.same("five are read: 50 * 990 / 250", all.known(5), 198);
    }

    private static void cannot() {
        HeatShares x = new HeatShares();
        x.flat(3, 0, 1);
        check.same("one flat, not read", x.replaced(0), HeatShares.CANNOT);
        x.reading(0, 12, 5);
        Houses.closeWithOneUnit(x, 1);
        check.same("it is not known then", x.known(0), NONE);
        HeatShares y = secondYear();
        for (int f = 0; f < 4; f++) {
            check.same("known, but none is read", y.replaced(f), HeatShares.CANNOT);
        }
    }

    private static void cap200() {
        check.test("where one is more than 200, it has 200: by like flats", TermsTest::capOfLike);
        check.test("where one is more than 200, it has 200: by last year", TermsTest::capOfLast);
        check.test("where one is more than 200: what is known then", TermsTest::capOfKnown);
        check.test("a meter that is read has more only if it is read so: 198", TermsTest::noCap);
    }

    /** Flat 0, of area 50, is replaced; the others have an area of 150 and `units` units. */
    private static HeatShares likeOf150(int units) {
        HeatShares x = Houses.fuelled(20000);
        x.flat(50, 0, 1);
        x.enter(0, 0);
        int left = units;
        for (int f = 1; f < 6; f++) {
            x.flat(30, 0, f < 5 ? 2 : 1);
            int moved = Math.min(99, f < 5 ? left / 2 : left);
            Houses.read(x, f, 0, moved);
            left -= f < 5 ? 2 * moved : moved;
        }
        check.same("all units are placed", left, 0);
        return x;
    }

    private static void capOfLike() {
        HeatShares x = likeOf150(599);
        check.same("bill", x.bill(), 0);
        check.same("50 * 599 / 150 of 599 and that: a quarter", x.amount(0, 1), 2500);
        HeatShares y = likeOf150(600);
        y.bill();
        check.same("200 of 800", y.amount(0, 1), 2500);
        HeatShares z = likeOf150(601);
        z.bill();
        check.same("200 of 801: 2496.9", z.amount(0, 1), 2497);
        HeatShares most = likeOf150(891);
        most.bill();
        check.same("200 of 1091: 1833.2", most.amount(0, 1), 1833);
    }

    /** Flat 0 has known units, flat 1 moves from `last` units to `now`: a bill by meters. */
    private static HeatShares lastOf(int known, int last, int now) {
        HeatShares x = new HeatShares();
        x.flat(10, 0, 1);
        x.flat(50, 0, 1);
        Houses.read(x, 0, 0, known);
        Houses.read(x, 1, 0, last);
        Houses.closeWithOneUnit(x, 1);
        x.reading(1, 12, last + now);
        x.enter(0, 0);
        Houses.refuel(x, 20000);
        check.same("by last year", x.replaced(0), HeatShares.LAST);
        check.same("bill", x.bill(), 0);
        return x;
    }

    private static void capOfLast() {
        check.same("46 * 13 / 3 of 13 and that: 9387.8", lastOf(46, 3, 13).amount(0, 1), 9388);
        check.same("60 * 10 / 3 = 200 of 210: 9523.8", lastOf(60, 3, 10).amount(0, 1), 9524);
        check.same("86 * 7 / 3 is 200 of 207: 9661.8", lastOf(86, 3, 7).amount(0, 1), 9662);
        check.same("99 * 98 / 1 is 200 of 298: 6711.4", lastOf(99, 1, 98).amount(0, 1), 6711);
    }

    private static void capOfKnown() {
        HeatShares x = lastOf(99, 1, 98);
        x.closeYear();
        check.same("by last year", x.known(0), 200);
        HeatShares y = new HeatShares();
        y.flat(50, 0, 1);
        y.flat(1, 0, 2);
        y.flat(1, 0, 2);
        Houses.read(y, 1, 0, 99);
        Houses.closeWithOneUnit(y, 1);
        check.same("by like flats", y.known(0), 200);
        check.same("1 * 198 / 1", y.known(2), 198);
        Houses.read(y, 1, 0, 99);
        Houses.read(y, 2, -1, -1);
        Houses.closeWithOneUnit(y, 1);
        check.same("known 200 once more: 200 * 198 / 198", y.known(0), 200);
    }

    private static void noCap() {
        HeatShares x = Houses.fuelled(20000);
        x.flat(1, 0, 2);
        x.flat(1, 0, 2);
        x.enter(0, 0);
        Houses.read(x, 0, 0, 99);
        Houses.read(x, 1, 98, 99);
        x.bill();
        check.same("198 of 200", x.amount(0, 1), 9900);
    }

    private static void byAreaOrByMeters() {
        check.test("BY AREA, if a meter can't be replaced", TermsTest::areaIfCannot);
        check.test("or four times the area of flats with meters that are replaced is more",
                TermsTest::quarterOfTheArea);
        check.test("or all units are 0", TermsTest::allUnitsAre0);
    }

    private static void areaIfCannot() {
        HeatShares x = Houses.fuelled(8000);
        x.flat(3, 0, 1);
        x.flat(1, 0, 1);
        x.enter(1, 0);
        check.same("both can't", x.bill(), 2);
        check.same("1 of 4 by area", x.amount(0, 1), 1000);
    }

    private static void quarterOfTheArea() {
        check.same("4 * 1 is 3 + 1", billOfAreas(3, 1), 0);
        check.same("4 * 1 is more than 2 + 1", billOfAreas(2, 1), 2);
        check.same("4 * 2 is 6 + 1 + 1", billOfAreas(6, 1, 1), 0);
        check.same("4 * 2 is more than 5 + 1 + 1", billOfAreas(5, 1, 1), 2);
        check.same("4 * 50 is 50 * 4", billOfAreas(50, 50, 50, 50), 2);
        check.same("none is replaced", billOfAreas(1), 0);
        for (int flat = 0; flat < 4; flat++) {
            check.same("flat " + flat + " of area 15 of 60", billWithout(flat, 15), 0);
            check.same("flat " + flat + " of area 16 of 61", billWithout(flat, 16), 2);
        }
    }

    /** Four flats, all of area 15 but one, whose meter is not read. */
    private static int billWithout(int replaced, int area) {
        HeatShares x = Houses.fuelled(8000);
        for (int f = 0; f < 4; f++) {
            x.flat(f == replaced ? area : 15, 0, 1);
            Houses.read(x, f, 0, f == replaced ? -1 : 1);
        }
        return x.bill();
    }

    /** The first flat's meter is read, the others' are not. */
    private static int billOfAreas(int... areas) {
        HeatShares x = Houses.fuelled(8000);
        for (int area : areas) {
            x.flat(area, 0, 1);
        }
        Houses.read(x, 0, 0, 1);
        return x.bill();
    }

    private static void allUnitsAre0() {
        HeatShares x = Houses.fuelled(8000);
        x.flat(3, 0, 1);
        x.flat(1, 0, 1);
        x.enter(1, 0);
        Houses.read(x, 0, 99, 99);
        check.same("0 read and 0 replaced", x.bill(), 2);
        check.same("1 of 4 by area", x.amount(0, 1), 1000);
        x.reading(0, 0, 98);
        check.same("1 read and 1/3 replaced", x.bill(), 0);
        Houses.read(x, 0, 0, 0);
        Houses.read(x, 1, 0, 0);
        check.same("0 and 0 read", x.bill(), 2);
        x.reading(1, 12, 1);
        check.same("0 and 1 read", x.bill(), 0);
        check.same("all of it", x.amount(0, 1), 4000);
    }

    private static void sharing() {
        check.test("the water part by water area * months", TermsTest::waterByMonths);
        check.test("or, if all water areas are 0, like the fixed one", TermsTest::noWaterArea);
        check.test("by area like the fixed one", TermsTest::meteredByArea);
        check.test("a flat has units / all units: none and all", TermsTest::noneAndAllUnits);
        check.test("a flat has units / all units: one unit of one flat", TermsTest::oneUnit);
        check.test("STRETCHES between two readings one behind the other", TermsTest::stretches);
        check.test("for a replaced one in one from 0 to 12", TermsTest::replacedStretch);
        check.test("if all these are 0, by the months", TermsTest::stretchWithoutDegrees);
        check.test("the degrees of a span are 0, those of its stretch are not",
                TermsTest::spanWithoutDegrees);
    }

    private static void waterByMonths() {
        HeatShares x = burning(100);
        x.enter(0, 11);
        x.flat(50, 0, 1);
        x.enter(1, 0);
        x.bill();
        check.same("one month of 12", x.amount(0, 2), 15);
        check.same("eleven months of 12", x.amount(NONE, 2), 165);
        check.same("no water area", x.amount(1, 2), 0);
    }

    private static void noWaterArea() {
        HeatShares x = new HeatShares();
        x.flat(10, 0, 1);
        x.flat(30, 0, 1);
        x.enter(0, 6);
        x.deliver(100, 10000);
        x.endStock(0);
        x.bill();
        check.same("10 * 6 of 40 * 12", x.amount(0, 2), 225);
        check.same("what is left", x.amount(NONE, 2), 1575);
        x.flat(1, 1, 1);
        x.bill();
        check.same("one water area of 1", x.amount(0, 2), 0);
        check.same("it has all", x.amount(NONE, 2), 1800);
    }

    private static void meteredByArea() {
        HeatShares x = Houses.fuelled(9600);
        x.flat(10, 0, 1);
        x.flat(30, 50, 1);
        x.enter(0, 11);
        check.same("bill", x.bill(), 2);
        check.same("fixed: 10 * 1 of 40 * 12", x.amount(0, 0), 100);
        check.same("metered: 10 * 1 of 40 * 12", x.amount(0, 1), 100);
    }

    private static void noneAndAllUnits() {
        HeatShares x = Houses.fuelled(9600);
        x.flat(50, 0, 1);
        x.flat(1, 0, 1);
        x.enter(0, 0);
        x.enter(1, 0);
        Houses.read(x, 0, 7, 7);
        Houses.read(x, 1, 7, 8);
        check.same("bill", x.bill(), 0);
        check.same("no units", x.amount(0, 1), 0);
        check.same("all units", x.amount(1, 1), 4800);
    }

    private static void oneUnit() {
        HeatShares x = Houses.fuelled(800);
        x.flat(1, 0, 1);
        x.enter(0, 0);
        Houses.read(x, 0, 98, 99);
        check.same("bill", x.bill(), 0);
        check.same("all of the metered part", x.amount(0, 1), 400);
    }

    /** Stretches of 1, 0 and 9 units; the change at 11 cuts the last one, from 2 to 12. */
    private static void stretches() {
        HeatShares x = Houses.fuelled(2000);
        x.flat(10, 0, 1);
        Houses.read(x, 0, 0, 10);
        x.reading(0, 1, 1);
        x.reading(0, 2, 1);
        x.enter(0, 1);
        x.enter(0, 2);
        x.enter(0, 11);
        Houses.setDegrees(x, 50, 20, 10, 0, 0, 0, 0, 0, 0, 0, 0, 20);
        check.same("bill", x.bill(), 0);
        check.same("month 0: 1 unit", x.amount(NONE, 1), 100);
        check.same("month 1: no unit", x.amount(0, 1), 0);
        check.same("months 2 .. 10: 9 * 10 / 30", x.amount(1, 1), 300);
        check.same("month 11: 9 * 20 / 30", x.amount(2, 1), 600);
    }

    /** The reading at 6 would part the units 9 to 1. */
    private static void replacedStretch() {
        HeatShares x = Houses.fuelled(8000);
        x.flat(30, 0, 1);
        x.flat(10, 0, 1);
        Houses.read(x, 0, 0, 30);
        x.reading(1, 0, 0);
        x.reading(1, 6, 9);
        x.enter(1, 6);
        Houses.setDegrees(x, 30, 0, 0, 0, 0, 0, 0, 0, 0, 0, 0, 70);
        check.same("bill", x.bill(), 0);
        check.same("10 units * 70 / 100 of 40", x.amount(0, 1), 700);
        x.reading(1, 12, 10);
        x.bill();
        check.same("read: 1 unit of 40", x.amount(0, 1), 100);
    }

    private static void stretchWithoutDegrees() {
        HeatShares x = Houses.fuelled(2400);
        x.flat(10, 0, 1);
        Houses.read(x, 0, 0, 12);
        x.reading(0, 9, 0);
        x.enter(0, 11);
        Houses.setDegrees(x, 0, 0, 0, 0, 0, 0, 0, 0, 100);
        check.same("bill", x.bill(), 0);
        check.same("12 units * 1 / 3", x.amount(0, 1), 400);
        Houses.setDegrees(x, 0, 0, 0, 0, 0, 0, 0, 0, 99, 1);
        check.same("bill", x.bill(), 0);
        check.same("12 units * 0 / 1", x.amount(0, 1), 0);
        Houses.setDegrees(x, 0, 0, 0, 0, 0, 0, 0, 0, 99, 0, 0, 1);
        check.same("bill", x.bill(), 0);
        check.same("12 units * 1 / 1", x.amount(0, 1), 1200);
    }

    private static void spanWithoutDegrees() {
        HeatShares x = readFlat(2000);
        x.enter(0, 3);
        x.enter(0, 9);
        Houses.setDegrees(x, 0, 0, 100);
        check.same("bill", x.bill(), 0);
        check.same("months 0 .. 2", x.amount(NONE, 1), 1000);
        check.same("months 3 .. 8", x.amount(0, 1), 0);
        check.same("months 9 .. 11", x.amount(1, 1), 0);
    }

    private static void centsThatAreLeft() {
        check.test("rounded down to cents: a part of 0 cents", TermsTest::noCents);
        check.test("one each, to the spans with the greatest fractions",
                TermsTest::greatestFractions);
        check.test("of those with the same ones first to that of the lesser flat",
                TermsTest::lesserFlat);
        check.test("of one flat to the earlier one", TermsTest::earlierSpan);
        check.test("the lesser flat's later span before the greater flat's earlier one",
                TermsTest::flatBeforeTime);
        check.test("each part has its own cents that are left", TermsTest::eachPartAlone);
        check.test("no cent is left", TermsTest::noCentIsLeft);
        check.test("cents that are left in a full house of 72 spans", TermsTest::centsOf72Spans);
    }

    private static HeatShares flatsOf(int cents, int... areas) {
        HeatShares x = Houses.fuelled(cents);
        for (int area : areas) {
            x.enter(x.flat(area, 0, 1), 0);
        }
        return x;
    }

    private static void checkFixed(HeatShares x, int... cents) {
        x.bill();
        for (int t = 0; t < cents.length; t++) {
            check.same("fixed of tenant " + t, x.amount(t, 0), cents[t]);
        }
    }

    private static void noCents() {
        HeatShares x = flatsOf(1, 1, 2, 3);
        checkFixed(x, 0, 0, 0);
        check.same("one cent is metered: 3 of 6", x.amount(2, 1), 1);
    }

    /** Six cents by 2, 3 and 4 of 9: 1.33, 2 and 2.67; seven: 1.56, 2.33 and 3.11. */
    private static void greatestFractions() {
        checkFixed(flatsOf(12, 2, 3, 4), 1, 2, 3);
        checkFixed(flatsOf(14, 2, 3, 4), 2, 2, 3);
        checkFixed(flatsOf(16, 2, 3, 4), 2, 3, 3);
        checkFixed(flatsOf(2, 49, 50), 0, 1);
        checkFixed(flatsOf(2, 50, 49), 1, 0);
    }

    private static void lesserFlat() {
        checkFixed(flatsOf(2, 7, 7, 7, 7, 7, 7), 1, 0, 0, 0, 0, 0);
        checkFixed(flatsOf(10, 7, 7, 7, 7, 7, 7), 1, 1, 1, 1, 1, 0);
        checkFixed(flatsOf(14, 7, 7, 7, 7, 7, 7), 2, 1, 1, 1, 1, 1);
        checkFixed(flatsOf(4, 1, 2, 1), 1, 1, 0);
    }

    /** The later span is the earlier tenant's. */
    private static void earlierSpan() {
        HeatShares x = Houses.fuelled(2);
        x.flat(1, 0, 1);
        x.enter(0, 6);
        x.enter(0, 0);
        checkFixed(x, 0, 1);
        HeatShares y = Houses.fuelled(22);
        y.flat(1, 0, 1);
        for (int t = 11; t >= 0; t--) {
            y.enter(0, t);
        }
        checkFixed(y, 0, 1, 1, 1, 1, 1, 1, 1, 1, 1, 1, 1);
    }

    private static void flatBeforeTime() {
        HeatShares x = Houses.fuelled(4);
        x.flat(1, 0, 1);
        x.flat(1, 0, 1);
        x.enter(0, 0);
        x.enter(0, 6);
        x.enter(1, 0);
        x.enter(1, 6);
        checkFixed(x, 1, 1, 0, 0);
        x.sideCosts(2);
        checkFixed(x, 1, 1, 1, 0);
    }

    private static void eachPartAlone() {
        HeatShares x = new HeatShares();
        for (int f = 0; f < 3; f++) {
            x.enter(x.flat(1, 1, 1), 0);
        }
        x.deliver(50, 50);
        x.endStock(0);
        x.bill();
        check.same("9 cents of water", x.amount(0, 2), 3);
        check.same("20 cents fixed, of flat 0", x.amount(0, 0), 7);
        check.same("20 cents fixed, of flat 2", x.amount(2, 0), 6);
        check.same("21 cents metered, of flat 0", x.amount(0, 1), 7);
        check.same("21 cents metered, of flat 2", x.amount(2, 1), 7);
        check.same("all of flat 0", x.amount(0, 3), 17);
        check.same("all of flat 2", x.amount(2, 3), 16);
    }

    private static void noCentIsLeft() {
        checkFixed(flatsOf(18, 2, 3, 4), 2, 3, 4);
        checkFixed(flatsOf(12, 7, 7, 7, 7, 7, 7), 1, 1, 1, 1, 1, 1);
    }

    /**
     * Beside 1000 cents for each span there are 12 of water, 29 fixed and 30 metered, one each for
     * the first spans: of tenants 0 .. 11 in flat 0, 12 .. 19 in flat 1, then of the landlord.
     */
    private static void centsOf72Spans() {
        HeatShares x = Houses.full();
        x.sideCosts(71);
        check.same("bill", x.bill(), 0);
        check.same("water part", x.part(2), 72 * 180 + 12);
        check.same("fixed part", x.part(3), 72 * 410 + 29);
        check.same("metered part", x.part(4), 72 * 410 + 30);
        for (int t = 0; t < 20; t++) {
            check.same("tenant " + t, x.amount(t, 3), t < 12 ? 1003 : 1002);
        }
        check.same("the landlord", x.amount(NONE, 3), 52000 + 9 + 10);
        x.closeYear();
        Houses.refuel(x, 20);
        x.bill();
        check.same("next year: the first of six spans", x.amount(11, 0), 2);
        check.same("next year: 2, 2, 2, 1 and 1", x.amount(NONE, 0), 8);
    }

    private static void degrees() {
        check.test("THE DEGREES of a month are 0 .. 100", TermsTest::degreesOfAMonth);
        check.test("NEEDED .. must sum up to 100", TermsTest::degreesSum);
        check.test("NEEDED, if the metered part is shared by meters", TermsTest::notNeededByArea);
        check.test("and some stretch has months of more than one span: a read meter",
                TermsTest::neededInReadStretch);
        check.test("and some stretch has months of more than one span: a replaced meter",
                TermsTest::neededInReplacedStretch);
        check.test("a change at time 0 parts nothing", TermsTest::notNeededAtTime0);
        check.test("one stretch of one flat is enough", TermsTest::neededInTheLastFlat);
    }

    private static void degreesOfAMonth() {
        for (int month = 0; month < 12; month++) {
            int told = month;
            HeatShares x = new HeatShares();
            check.takesOnly(0, 100, ARGUMENT, "degrees", d -> x.degrees(told, d));
        }
    }

    private static void degreesSum() {
        HeatShares x = readFlat(2000);
        x.enter(0, 6);
        check.same("0", x.bill(), NONE);
        Houses.setDegrees(x, 50, 0, 0, 0, 0, 0, 0, 0, 0, 0, 0, 49);
        check.same("99", x.bill(), NONE);
        x.degrees(5, 1);
        check.same("100", x.bill(), 0);
        check.same("49 of 100", x.amount(0, 1), 490);
        x.degrees(6, 1);
        check.same("101", x.bill(), NONE);
        for (int m = 0; m < 12; m++) {
            x.degrees(m, 100);
        }
        check.same("1200", x.bill(), NONE);
        for (int m = 0; m < 12; m++) {
            Houses.setDegrees(x);
            x.degrees(m, 100);
            check.same("all in month " + m, x.bill(), 0);
            check.same("before or after 6", x.amount(0, 1), m < 6 ? 0 : 1000);
        }
    }

    private static void notNeededByArea() {
        HeatShares x = readFlat(2400);
        x.enter(0, 6);
        check.same("by meters", x.bill(), NONE);
        x.reading(0, 12, -1);
        check.same("by area: it can't be replaced", x.bill(), 2);
        check.same("by months", x.amount(0, 1), 600);
        Houses.read(x, 0, 5, 5);
        check.same("by area: no units", x.bill(), 2);
        Houses.read(x, 0, 5, 6);
        check.same("by meters", x.bill(), NONE);
        x.flat(4, 0, 1);
        check.same("by area: 16 is more than 14", x.bill(), 2);
    }

    private static void neededInReadStretch() {
        for (int t = 1; t < 12; t++) {
            HeatShares x = readFlat(2400);
            check.same("no change", x.bill(), 0);
            x.enter(0, t);
            check.same("a change at " + t, x.bill(), NONE);
            x.reading(0, t - 1, 0);
            x.reading(0, t + 1, 10);
            check.same("readings before and behind", x.bill(), NONE);
            x.reading(0, t, 4);
            check.same("and at " + t, x.bill(), 0);
            check.same("6 units of 10", x.amount(0, 1), 720);
        }
    }

    private static void neededInReplacedStretch() {
        HeatShares x = Houses.fuelled(8000);
        x.flat(30, 0, 1);
        x.flat(10, 0, 1);
        Houses.read(x, 0, 0, 30);
        x.reading(1, 0, 0);
        x.reading(1, 6, 9);
        check.same("no change", x.bill(), 0);
        x.enter(1, 6);
        check.same("a reading parts no replaced meter's stretch", x.bill(), NONE);
        x.reading(1, 12, 9);
        check.same("read, it does", x.bill(), 0);
    }

    private static void notNeededAtTime0() {
        HeatShares x = readFlat(2400);
        x.enter(0, 0);
        check.same("one span", x.bill(), 0);
        check.same("all of it", x.amount(0, 1), 1200);
        x.leave(0, 1);
        check.same("two spans", x.bill(), NONE);
    }

    private static void neededInTheLastFlat() {
        HeatShares x = Houses.fuelled(2400);
        for (int f = 0; f < 6; f++) {
            x.flat(10, 0, 1);
            Houses.read(x, f, 0, 10);
        }
        check.same("no change", x.bill(), 0);
        x.leave(5, 11);
        check.same("a change in flat 5", x.bill(), NONE);
        x.reading(5, 11, 10);
        check.same("a reading there", x.bill(), 0);
    }

    private static void whenABillCanBeMade() {
        check.test("A BILL can be made if there is a flat", TermsTest::billNeedsAFlat);
        check.test("the end stock is given", TermsTest::billNeedsTheEndStock);
        check.test("burned is above 0", TermsTest::billNeedsBurned);
        check.test("for each tenant the three parts of all spans that are theirs",
                TermsTest::allSpansOfOne);
    }

    private static void billNeedsAFlat() {
        HeatShares x = Houses.fuelled(2400);
        check.same("no flat", x.bill(), NONE);
        x.flat(1, 0, 1);
        check.same("a flat", x.bill(), 2);
    }

    private static void billNeedsTheEndStock() {
        HeatShares x = new HeatShares();
        x.flat(1, 0, 1);
        x.deliver(5, 100);
        check.same("not given", x.bill(), NONE);
        x.endStock(0);
        check.same("given", x.bill(), 2);
        x.endStock(-1);
        check.same("not given any more", x.bill(), NONE);
    }

    private static void billNeedsBurned() {
        HeatShares x = new HeatShares();
        x.flat(1, 0, 1);
        x.endStock(0);
        x.sideCosts(100);
        check.same("no fuel", x.bill(), NONE);
        x.deliver(1, 100);
        check.same("one unit", x.bill(), 2);
        check.same("burned", x.part(0), 1);
        x.endStock(1);
        check.same("none of one", x.bill(), NONE);
        x.deliver(999, 100);
        x.endStock(1000);
        check.same("none of 1000", x.bill(), NONE);
        x.endStock(999);
        check.same("one of 1000", x.bill(), 2);
        check.same("burned", x.part(0), 1);
    }

    private static void allSpansOfOne() {
        HeatShares x = Houses.fuelled(7200);
        for (int f = 0; f < 3; f++) {
            x.flat(10, 10, 1);
            x.enter(f, 4);
            x.leave(f, 8);
        }
        x.bill();
        for (int t = 0; t < 3; t++) {
            check.same("four months of one flat", x.amount(t, 0), 400);
        }
        check.same("the landlord's six spans", x.amount(NONE, 0), 2400);
    }
}
