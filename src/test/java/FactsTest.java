import java.util.function.Consumer;

/** Promises 1 to 12: a new object, the facts, and what ends the bill. */
public final class FactsTest {
    private static final Class<IllegalArgumentException> ARGUMENT = IllegalArgumentException.class;
    private static final Class<IllegalStateException> STATE = IllegalStateException.class;
    private static final Class<IndexOutOfBoundsException> INDEX = IndexOutOfBoundsException.class;
    private static final Class<UnsupportedOperationException> FULL =
            UnsupportedOperationException.class;
    private static final int NONE = HeatShares.NONE;
    private static final int[] NUMBERS_FAR_OUT = {Integer.MIN_VALUE, Integer.MAX_VALUE};
    private static final Check check = new Check();

    public static void main(String[] args) {
        aNewObject();
        check.test("2 flat", FactsTest::promise2Flat);
        check.test("3 reading", FactsTest::promise3Reading);
        check.test("3 reading: value -1 takes it away", FactsTest::readingTakenAway);
        check.test("4 enter", FactsTest::promise4Enter);
        check.test("5 leave", FactsTest::promise5Leave);
        check.test("4 and 5: spans", FactsTest::promise4And5Spans);
        check.test("6 deliver", FactsTest::promise6Deliver);
        check.test("7 endStock", FactsTest::promise7EndStock);
        check.test("7 endStock: -1, it is not given", FactsTest::endStockNotGiven);
        check.test("7 endStock: more deliveries leave it", FactsTest::deliveriesLeaveEndStock);
        check.test("8 sideCosts", FactsTest::promise8SideCosts);
        check.test("9 water", FactsTest::promise9Water);
        check.test("9 water: litres -1, not measured", FactsTest::waterNotMeasured);
        check.test("10 permille", FactsTest::promise10Permille);
        check.test("11 degrees", FactsTest::promise11Degrees);
        check.test("12 prepay", FactsTest::promise12Prepay);
        check.test("12 prepay: this ends no bill", FactsTest::prepayEndsNoBill);
        whatEndsTheBill();
        whatEndsNoBill();
        check.test("what was sent stays", FactsTest::whatWasSentStays);
        check.test("what throws leaves the bill", FactsTest::whatThrowsLeavesTheBill);
        check.end();
    }

    /** Flats of 20 and 30, tenant 0 in the first; 100 units for 10000 cents, all burned. */
    private static HeatShares smallHouse() {
        HeatShares x = new HeatShares();
        x.flat(20, 10, 1);
        x.flat(30, 0, 2);
        x.enter(0, 0);
        x.deliver(100, 10000);
        x.endStock(0);
        return x;
    }

    private static void aNewObject() {
        check.test("1: no flats", FactsTest::newHasNoFlats);
        check.test("1: no tenants, nothing sent and no bill", FactsTest::newHasNoBill);
        check.test("1: no fuel", FactsTest::newHasNoFuel);
        check.test("1: no side costs", FactsTest::newHasNoSideCosts);
        check.test("1: permille 500", FactsTest::newHasPermille500);
        check.test("1: degrees 0", FactsTest::newHasDegrees0);
        check.test("1: litres not measured", FactsTest::newHasNoLitres);
        check.test("1: the end stock not given", FactsTest::newHasNoEndStock);
        check.test("1: two objects have nothing in common", FactsTest::objectsAreApart);
    }

    private static void newHasNoFlats() {
        HeatShares x = Houses.fuelled(100);
        check.same("bill of fuel without flats", x.bill(), NONE);
        check.refuses(INDEX, "replaced of no flat", () -> x.replaced(0));
        check.refuses(INDEX, "known of no flat", () -> x.known(0));
        check.same("the first flat", x.flat(1, 1, 1), 0);
        check.same("a flat has no reading", x.replaced(0), HeatShares.CANNOT);
        check.same("nor known units", x.known(0), NONE);
        check.same("the first tenant", x.enter(0, 0), 0);
        check.same("who paid nothing", x.paid(0), 0);
        check.same("and got nothing", x.sent(0), 0);
    }

    private static void newHasNoBill() {
        HeatShares x = new HeatShares();
        check.refuses(INDEX, "paid of no tenant", () -> x.paid(0));
        check.refuses(INDEX, "sent of no tenant", () -> x.sent(0));
        check.same("sent to the landlord", x.sent(NONE), 0);
        check.refuses(STATE, "part of no bill", () -> x.part(0));
        check.same("bill of nothing", x.bill(), NONE);
        check.refuses(STATE, "part of nothing", () -> x.part(0));
    }

    private static void newHasNoFuel() {
        HeatShares x = new HeatShares();
        x.flat(50, 50, 1);
        check.refuses(ARGUMENT, "endStock of no fuel", () -> x.endStock(1));
        x.endStock(0);
        check.same("bill of no fuel", x.bill(), NONE);
        for (int n = 0; n < 12; n++) {
            x.deliver(1, 1);
        }
        x.bill();
        check.same("no fuel before", x.part(0), 12);
    }

    private static void newHasNoSideCosts() {
        HeatShares x = Houses.fuelled(20000);
        x.flat(50, 50, 1);
        x.bill();
        check.same("the fuel's cents alone", x.part(1), 20000);
        check.same("the flat is empty", x.amount(NONE, 3), 20000);
    }

    private static void newHasPermille500() {
        HeatShares x = Houses.fuelled(20000);
        x.flat(50, 50, 1);
        x.bill();
        check.same("fixed", x.part(3), 10000);
        check.same("metered", x.part(4), 10000);
    }

    private static void newHasDegrees0() {
        HeatShares x = Houses.fuelled(200);
        x.flat(50, 50, 1);
        Houses.read(x, 0, 0, 1);
        x.leave(0, 5);
        check.same("degrees 0", x.bill(), NONE);
        for (int m = 0; m < 12; m++) {
            x.degrees(m, 100);
            check.same("all other months have 0: " + m, x.bill(), 0);
            x.degrees(m, 0);
        }
    }

    private static void newHasNoLitres() {
        HeatShares x = new HeatShares();
        x.flat(50, 50, 1);
        x.deliver(1000, 20000);
        x.endStock(0);
        x.bill();
        check.same("180 of 1000", x.part(2), 3600);
    }

    private static void newHasNoEndStock() {
        HeatShares x = new HeatShares();
        x.flat(50, 50, 1);
        x.deliver(1, 1);
        check.same("it is not given", x.bill(), NONE);
        x.endStock(0);
        check.same("it is given", x.bill(), 2);
    }

    private static void objectsAreApart() {
        HeatShares x = Houses.busySent();
        String before = Probe.of(new HeatShares());
        x.closeYear();
        check.sameWords("a new object beside a used one", Probe.of(new HeatShares()), before);
        check.refuses(INDEX, "a flat of the other", () -> new HeatShares().known(0));
    }

    private static void promise2Flat() {
        HeatShares x = new HeatShares();
        check.refuses(ARGUMENT, "flat(0, 0, 1)", () -> x.flat(0, 0, 1));
        check.refuses(ARGUMENT, "flat(51, 0, 1)", () -> x.flat(51, 0, 1));
        check.refuses(ARGUMENT, "flat(1, -1, 1)", () -> x.flat(1, -1, 1));
        check.refuses(ARGUMENT, "flat(1, 51, 1)", () -> x.flat(1, 51, 1));
        check.refuses(ARGUMENT, "flat(1, 0, 0)", () -> x.flat(1, 0, 0));
        check.refuses(ARGUMENT, "flat(1, 0, 3)", () -> x.flat(1, 0, 3));
        for (int far : NUMBERS_FAR_OUT) {
            check.refuses(ARGUMENT, "flat(" + far + ", 1, 1)", () -> x.flat(far, 1, 1));
            check.refuses(ARGUMENT, "flat(1, " + far + ", 1)", () -> x.flat(1, far, 1));
            check.refuses(ARGUMENT, "flat(1, 1, " + far + ")", () -> x.flat(1, 1, far));
        }
        check.refuses(INDEX, "known of a refused flat", () -> x.known(0));
        for (int f = 0; f < 6; f++) {
            check.same("flat " + f, x.flat(f == 0 ? 1 : 50, f == 0 ? 0 : 50, 1 + f % 2), f);
        }
        check.refuses(FULL, "a seventh flat", () -> x.flat(1, 0, 1));
        check.refuses(ARGUMENT, "a seventh flat of area 0", () -> x.flat(0, 0, 1));
        check.same("known(5)", x.known(5), NONE);
        check.refuses(INDEX, "known(6)", () -> x.known(6));
    }

    private static void promise3Reading() {
        HeatShares x = smallHouse();
        check.refuses(INDEX, "reading of flat -1", () -> x.reading(-1, 0, 0));
        check.refuses(INDEX, "reading of flat 2", () -> x.reading(2, 0, 0));
        check.refuses(INDEX, "reading at -1", () -> x.reading(0, -1, 0));
        check.refuses(INDEX, "reading at 13", () -> x.reading(0, 13, 0));
        check.refuses(INDEX, "reading at 13 of 100", () -> x.reading(0, 13, 100));
        check.refuses(ARGUMENT, "reading of -2", () -> x.reading(0, 0, -2));
        check.refuses(ARGUMENT, "reading of 100", () -> x.reading(0, 12, 100));
        for (int far : NUMBERS_FAR_OUT) {
            check.refuses(INDEX, "reading of flat " + far, () -> x.reading(far, 0, 0));
            check.refuses(INDEX, "reading at " + far, () -> x.reading(0, far, 0));
            check.refuses(ARGUMENT, "reading of " + far, () -> x.reading(0, 0, far));
        }
        check.same("no readings", x.replaced(0), HeatShares.CANNOT);
        x.reading(0, 12, 99);
        check.same("one reading", x.replaced(0), HeatShares.CANNOT);
        x.reading(0, 0, 0);
        check.same("two readings", x.replaced(0), HeatShares.READ);
        x.reading(0, 12, -1);
        check.same("one taken away", x.replaced(0), HeatShares.CANNOT);
        x.reading(0, 0, 50);
        x.reading(0, 12, 60);
        x.reading(1, 0, 5);
        x.reading(1, 12, 20);
        check.same("bill of 10 and 2 * 15 units", x.bill(), 0);
        check.same("metered of 10 units of 40", x.amount(0, 1), 1025);
        check.same("metered of 30 units of 40", x.amount(NONE, 1), 3075);
        x.reading(0, 12, 65);
        x.bill();
        check.same("a reading said anew: 15 units of 45", x.amount(0, 1), 1367);
    }

    private static void readingTakenAway() {
        for (int t = 0; t <= 12; t++) {
            HeatShares x = Houses.fuelled(200);
            x.flat(10, 10, 1);
            for (int all = 0; all <= 12; all++) {
                x.reading(0, all, all);
            }
            int inside = Math.max(1, Math.min(11, t));
            x.leave(0, inside);
            check.same("all are there", x.bill(), 0);
            x.reading(0, t, -1);
            int due = t == 0 || t == 12 ? HeatShares.CANNOT : HeatShares.READ;
            check.same("taken away at " + t, x.replaced(0), due);
            check.same("bill", x.bill(), t == 0 || t == 12 ? 2 : NONE);
            check.takes("none there to take away", () -> x.reading(0, inside, -1));
        }
    }

    private static void promise4Enter() {
        HeatShares x = new HeatShares();
        check.refuses(INDEX, "enter without flats", () -> x.enter(0, 0));
        x.flat(10, 10, 1);
        x.flat(10, 10, 1);
        check.refuses(INDEX, "enter flat -1", () -> x.enter(-1, 0));
        check.refuses(INDEX, "enter flat 2", () -> x.enter(2, 0));
        check.refuses(INDEX, "enter at -1", () -> x.enter(0, -1));
        check.refuses(INDEX, "enter at 12", () -> x.enter(0, 12));
        for (int far : NUMBERS_FAR_OUT) {
            check.refuses(INDEX, "enter flat " + far, () -> x.enter(far, 0));
            check.refuses(INDEX, "enter at " + far, () -> x.enter(0, far));
        }
        for (int n = 0; n < 19; n++) {
            check.same("tenant", x.enter(n / 12, n % 12), n);
        }
        check.refuses(STATE, "enter at a change", () -> x.enter(0, 11));
        x.leave(1, 7);
        check.refuses(STATE, "enter where one left", () -> x.enter(1, 7));
        check.same("the last tenant", x.enter(1, 11), 19);
        check.refuses(FULL, "a tenant more", () -> x.enter(1, 8));
        check.refuses(STATE, "a tenant more at a change", () -> x.enter(1, 7));
        check.refuses(INDEX, "a tenant more at 12", () -> x.enter(1, 12));
        x.leave(1, 8);
        check.same("paid(19)", x.paid(19), 0);
        check.refuses(INDEX, "paid(20)", () -> x.paid(20));
    }

    private static void promise5Leave() {
        HeatShares x = new HeatShares();
        check.refuses(INDEX, "leave without flats", () -> x.leave(0, 0));
        x.flat(10, 10, 1);
        check.refuses(INDEX, "leave flat -1", () -> x.leave(-1, 0));
        check.refuses(INDEX, "leave flat 1", () -> x.leave(1, 0));
        check.refuses(INDEX, "leave at -1", () -> x.leave(0, -1));
        check.refuses(INDEX, "leave at 12", () -> x.leave(0, 12));
        for (int far : NUMBERS_FAR_OUT) {
            check.refuses(INDEX, "leave flat " + far, () -> x.leave(far, 0));
            check.refuses(INDEX, "leave at " + far, () -> x.leave(0, far));
        }
        x.leave(0, 0);
        check.refuses(STATE, "leave again", () -> x.leave(0, 0));
        x.enter(0, 11);
        check.refuses(STATE, "leave where one came", () -> x.leave(0, 11));
        x.leave(0, 10);
        x.leave(0, 9);
    }

    /** One flat of 1200 cents of fixed part: a month is 100 cents. */
    private static void promise4And5Spans() {
        HeatShares x = new HeatShares();
        x.flat(7, 7, 1);
        x.deliver(1, 2400);
        x.endStock(0);
        x.enter(0, 8);
        x.leave(0, 6);
        x.enter(0, 3);
        x.leave(0, 11);
        check.same("bill by area", x.bill(), 2);
        check.same("water of one unit", x.part(2), 0);
        check.same("months 8, 9, 10", x.amount(0, 0), 300);
        check.same("months 3, 4, 5", x.amount(1, 0), 300);
        check.same("months 0, 1, 2, 6, 7, 11", x.amount(NONE, 0), 600);
        x.enter(0, 0);
        x.bill();
        check.same("months 0, 1, 2", x.amount(2, 0), 300);
        check.same("months 6, 7, 11", x.amount(NONE, 0), 300);
    }

    private static void promise6Deliver() {
        HeatShares x = new HeatShares();
        x.flat(1, 1, 1);
        check.refuses(ARGUMENT, "deliver(0, 1)", () -> x.deliver(0, 1));
        check.refuses(ARGUMENT, "deliver(1001, 1)", () -> x.deliver(1001, 1));
        check.refuses(ARGUMENT, "deliver(1, -1)", () -> x.deliver(1, -1));
        check.refuses(ARGUMENT, "deliver(1, 20001)", () -> x.deliver(1, 20001));
        for (int far : NUMBERS_FAR_OUT) {
            check.refuses(ARGUMENT, "deliver(" + far + ", 1)", () -> x.deliver(far, 1));
            check.refuses(ARGUMENT, "deliver(1, " + far + ")", () -> x.deliver(1, far));
        }
        x.endStock(0);
        check.same("refused deliveries lie nowhere", x.bill(), NONE);
        for (int n = 0; n < 6; n++) {
            x.deliver(1000, 20000);
            x.deliver(1, 0);
        }
        check.refuses(FULL, "a thirteenth layer", () -> x.deliver(1, 0));
        check.refuses(ARGUMENT, "a thirteenth layer of nothing", () -> x.deliver(0, 0));
        x.bill();
        check.same("burned", x.part(0), 6006);
        check.same("cost", x.part(1), 120000);
    }

    private static void promise7EndStock() {
        HeatShares x = new HeatShares();
        x.flat(1, 1, 1);
        x.deliver(10, 1000);
        x.deliver(7, 500);
        x.deliver(5, 900);
        check.refuses(ARGUMENT, "endStock(-2)", () -> x.endStock(-2));
        check.refuses(ARGUMENT, "endStock(23)", () -> x.endStock(23));
        for (int far : NUMBERS_FAR_OUT) {
            check.refuses(ARGUMENT, "endStock(" + far + ")", () -> x.endStock(far));
        }
        check.same("it is not given", x.bill(), NONE);
        x.endStock(22);
        check.same("nothing burned", x.bill(), NONE);
        checkStock(x, 21, 1, 100);
        checkStock(x, 12, 10, 1000);
        checkStock(x, 8, 14, 1500 - 500 * 3 / 7);
        checkStock(x, 5, 17, 1500);
        checkStock(x, 4, 18, 1500 + 900 - 720);
        checkStock(x, 0, 22, 2400);
    }

    private static void endStockNotGiven() {
        HeatShares x = smallHouse();
        check.same("it is given", x.bill(), 2);
        x.endStock(-1);
        check.same("it is taken away", x.bill(), NONE);
        check.takes("it was not there", () -> x.endStock(-1));
        check.same("it is not given", x.bill(), NONE);
        x.endStock(0);
        check.same("an end stock of 0 is given", x.bill(), 2);
    }

    private static void deliveriesLeaveEndStock() {
        HeatShares x = new HeatShares();
        x.flat(1, 1, 1);
        x.deliver(5, 900);
        x.endStock(5);
        check.same("nothing is burned", x.bill(), NONE);
        x.deliver(2, 100);
        check.same("two units are burned", x.bill(), 2);
        check.same("as the end stock is what it was", x.part(0), 2);
        check.same("two of the older layer", x.part(1), 1000 - 100 - 540);
        x.endStock(0);
        x.deliver(1, 7);
        x.bill();
        check.same("an end stock of 0 too", x.part(0), 8);
        x.endStock(-1);
        x.deliver(1, 7);
        check.same("and one that is not given", x.bill(), NONE);
    }

    private static void checkStock(HeatShares x, int stock, int burned, int cost) {
        x.endStock(stock);
        x.bill();
        check.same("burned with end stock " + stock, x.part(0), burned);
        check.same("cost with end stock " + stock, x.part(1), cost);
    }

    private static void promise8SideCosts() {
        HeatShares x = smallHouse();
        check.refuses(ARGUMENT, "sideCosts(-1)", () -> x.sideCosts(-1));
        check.refuses(ARGUMENT, "sideCosts(20001)", () -> x.sideCosts(20001));
        for (int far : NUMBERS_FAR_OUT) {
            check.refuses(ARGUMENT, "sideCosts(" + far + ")", () -> x.sideCosts(far));
        }
        x.sideCosts(20000);
        x.bill();
        check.same("cost with side costs", x.part(1), 30000);
        x.sideCosts(17);
        x.bill();
        check.same("side costs said anew", x.part(1), 10017);
        x.sideCosts(0);
        x.bill();
        check.same("no side costs", x.part(1), 10000);
    }

    private static void promise9Water() {
        HeatShares x = smallHouse();
        check.refuses(ARGUMENT, "water(-2, 0)", () -> x.water(-2, 0));
        check.refuses(ARGUMENT, "water(10000001, 0)", () -> x.water(10000001, 0));
        check.refuses(ARGUMENT, "water(0, -1)", () -> x.water(0, -1));
        check.refuses(ARGUMENT, "water(0, 101)", () -> x.water(0, 101));
        check.refuses(ARGUMENT, "water(-1, 101)", () -> x.water(-1, 101));
        for (int far : NUMBERS_FAR_OUT) {
            check.refuses(ARGUMENT, "water(" + far + ", 0)", () -> x.water(far, 0));
            check.refuses(ARGUMENT, "water(0, " + far + ")", () -> x.water(0, far));
        }
        checkWater(x, -1, 50, 1800);
        checkWater(x, 0, 50, 0);
        checkWater(x, 1000, 0, 0);
        checkWater(x, 1000, 17, 1900);
        checkWater(x, 869, 1, 0);
        checkWater(x, 870, 1, 100);
        checkWater(x, 1000, 35, 4000);
        checkWater(x, 10000000, 100, 4000);
        checkWater(x, -1, 100, 1800);
        x.endStock(1);
        checkWater(x, -1, 0, 17 * 100);
        checkWater(x, 10000000, 100, 39 * 100);
    }

    private static void waterNotMeasured() {
        HeatShares x = smallHouse();
        checkWater(x, 0, 100, 0);
        checkWater(x, -1, 100, 1800);
        checkWater(x, -1, 0, 1800);
        checkWater(x, 0, 0, 0);
    }

    private static void checkWater(HeatShares x, int litres, int gap, int part) {
        x.water(litres, gap);
        x.bill();
        check.same("water part of water(" + litres + ", " + gap + ")", x.part(2), part);
    }

    private static void promise10Permille() {
        HeatShares x = smallHouse();
        check.refuses(ARGUMENT, "permille(299)", () -> x.permille(299));
        check.refuses(ARGUMENT, "permille(701)", () -> x.permille(701));
        for (int far : NUMBERS_FAR_OUT) {
            check.refuses(ARGUMENT, "permille(" + far + ")", () -> x.permille(far));
        }
        x.permille(300);
        x.bill();
        check.same("fixed by 300", x.part(3), 2460);
        check.same("metered by 300", x.part(4), 5740);
        x.permille(700);
        x.bill();
        check.same("fixed by 700", x.part(3), 5740);
        x.sideCosts(3);
        x.permille(333);
        x.bill();
        check.same("water of 10003", x.part(2), 1800);
        check.same("fixed rounded down", x.part(3), 8203 * 333 / 1000);
        check.same("metered has the rest", x.part(4), 8203 - 8203 * 333 / 1000);
    }

    private static void promise11Degrees() {
        HeatShares x = new HeatShares();
        x.flat(10, 10, 1);
        x.deliver(1, 2000);
        x.endStock(0);
        x.reading(0, 0, 0);
        x.reading(0, 12, 10);
        x.enter(0, 6);
        check.refuses(INDEX, "degrees(-1, 0)", () -> x.degrees(-1, 0));
        check.refuses(INDEX, "degrees(12, 0)", () -> x.degrees(12, 0));
        check.refuses(INDEX, "degrees(12, 101)", () -> x.degrees(12, 101));
        check.refuses(ARGUMENT, "degrees(0, -1)", () -> x.degrees(0, -1));
        check.refuses(ARGUMENT, "degrees(11, 101)", () -> x.degrees(11, 101));
        for (int far : NUMBERS_FAR_OUT) {
            check.refuses(INDEX, "degrees(" + far + ", 1)", () -> x.degrees(far, 1));
            check.refuses(ARGUMENT, "degrees(1, " + far + ")", () -> x.degrees(1, far));
        }
        x.degrees(0, 100);
        x.degrees(11, 100);
        check.same("200 in all", x.bill(), NONE);
        x.degrees(0, 69);
        x.degrees(11, 30);
        check.same("99 in all", x.bill(), NONE);
        x.degrees(0, 70);
        check.same("100 in all", x.bill(), 0);
        check.same("30 of 100 of the metered part", x.amount(0, 1), 300);
        check.same("half of the fixed part", x.amount(0, 0), 500);
        x.degrees(0, 0);
        x.degrees(11, 100);
        x.bill();
        check.same("degrees said anew", x.amount(0, 1), 1000);
    }

    private static void promise12Prepay() {
        HeatShares x = smallHouse();
        x.bill();
        check.refuses(INDEX, "prepay(-1, 1)", () -> x.prepay(-1, 1));
        check.refuses(INDEX, "prepay(1, 1)", () -> x.prepay(1, 1));
        check.refuses(INDEX, "prepay(1, -1)", () -> x.prepay(1, -1));
        check.refuses(ARGUMENT, "prepay(0, -1)", () -> x.prepay(0, -1));
        check.refuses(ARGUMENT, "prepay(0, 20001)", () -> x.prepay(0, 20001));
        for (int far : NUMBERS_FAR_OUT) {
            check.refuses(INDEX, "prepay(" + far + ", 1)", () -> x.prepay(far, 1));
            check.refuses(ARGUMENT, "prepay(0, " + far + ")", () -> x.prepay(0, far));
        }
        check.same("nothing paid", x.paid(0), 0);
        x.prepay(0, 0);
        x.prepay(0, 20000);
        for (int n = 0; n < 48; n++) {
            x.prepay(0, 20000);
        }
        x.prepay(0, 19999);
        check.same("paid", x.paid(0), 999999);
        check.refuses(ARGUMENT, "prepay of more than 1000000", () -> x.prepay(0, 2));
        check.same("paid as before", x.paid(0), 999999);
        x.prepay(0, 1);
        check.same("paid 1000000", x.paid(0), 1000000);
        x.prepay(0, 0);
        check.refuses(ARGUMENT, "prepay of one more", () -> x.prepay(0, 1));
        check.same("it ends no bill", x.part(0), 100);
    }

    private static void prepayEndsNoBill() {
        HeatShares x = smallHouse();
        x.bill();
        x.prepay(0, 20000);
        check.same("the bill stays", x.amount(0, 3), 5080);
        check.same("it can be sent", x.send(), 2);
        x.prepay(0, 0);
        check.same("and is not less what was paid", x.amount(0, 3), 5080);
    }

    private static void whatEndsTheBill() {
        endsTheBill("flat", x -> x.flat(1, 1, 1));
        endsTheBill("reading", x -> x.reading(0, 5, 1));
        endsTheBill("reading that says what there is", x -> x.reading(0, 7, 9));
        endsTheBill("reading -1", x -> x.reading(0, 7, -1));
        endsTheBill("reading -1 that says what there is", x -> x.reading(1, 5, -1));
        endsTheBill("enter", x -> x.enter(0, 5));
        endsTheBill("leave", x -> x.leave(0, 5));
        endsTheBill("leave that says what there is", x -> x.leave(1, 0));
        endsTheBill("deliver", x -> x.deliver(1, 1));
        endsTheBill("endStock", x -> x.endStock(1));
        endsTheBill("endStock that says what there is", x -> x.endStock(0));
        endsTheBill("endStock -1", x -> x.endStock(-1));
        endsTheBill("sideCosts", x -> x.sideCosts(1));
        endsTheBill("sideCosts that says what there is", x -> x.sideCosts(0));
        endsTheBill("water", x -> x.water(1, 1));
        endsTheBill("water that says what there is", x -> x.water(-1, 0));
        endsTheBill("permille", x -> x.permille(501));
        endsTheBill("permille that says what there is", x -> x.permille(500));
        endsTheBill("degrees", x -> x.degrees(3, 1));
        endsTheBill("degrees that says what there is", x -> x.degrees(3, 0));
        endsTheBill("closeYear", HeatShares::closeYear);
    }

    private static void endsTheBill(String what, Consumer<HeatShares> call) {
        check.test("ends the bill: " + what, () -> {
            HeatShares x = smallHouse();
            x.reading(0, 7, 9);
            check.same("bill", x.bill(), 2);
            call.accept(x);
            check.refuses(STATE, "part", () -> x.part(0));
            check.refuses(STATE, "amount", () -> x.amount(NONE, 0));
            check.refuses(STATE, "send", x::send);
            check.refuses(STATE, "closeYear", x::closeYear);
        });
    }

    private static void whatEndsNoBill() {
        endsNoBill("prepay", x -> x.prepay(0, 1));
        endsNoBill("bill", HeatShares::bill);
        endsNoBill("amount", x -> x.amount(0, 3));
        endsNoBill("paid", x -> x.paid(0));
        endsNoBill("part", x -> x.part(0));
        endsNoBill("replaced", x -> x.replaced(0));
        endsNoBill("send", HeatShares::send);
        endsNoBill("sent", x -> x.sent(0));
        endsNoBill("known", x -> x.known(0));
    }

    private static void endsNoBill(String what, Consumer<HeatShares> call) {
        check.test("ends no bill: " + what, () -> {
            HeatShares x = smallHouse();
            x.bill();
            call.accept(x);
            check.same("the bill's cost", x.part(1), 10000);
            check.same("a tenant's amount", x.amount(0, 3), 5080);
            check.takes("send", x::send);
            check.takes("closeYear", x::closeYear);
        });
    }

    private static void whatWasSentStays() {
        HeatShares x = smallHouse();
        x.bill();
        x.send();
        x.sideCosts(1000);
        check.same("after a fact", x.sent(0), 5080);
        check.same("the landlord's", x.sent(NONE), 4920);
        x.endStock(100);
        check.same("a bill that can't be made", x.bill(), NONE);
        check.same("after it", x.sent(0), 5080);
        x.endStock(0);
        x.bill();
        check.same("after a bill that is not sent", x.sent(0), 5080);
        x.send();
        check.same("the difference is sent", x.sent(0), 508);
    }

    private static void whatThrowsLeavesTheBill() {
        HeatShares x = smallHouse();
        x.bill();
        check.refuses(ARGUMENT, "flat", () -> x.flat(0, 0, 0));
        check.refuses(ARGUMENT, "reading", () -> x.reading(0, 0, 100));
        check.refuses(STATE, "enter", () -> x.enter(0, 0));
        check.refuses(STATE, "leave", () -> x.leave(0, 0));
        check.refuses(ARGUMENT, "deliver", () -> x.deliver(0, 0));
        check.refuses(ARGUMENT, "endStock", () -> x.endStock(101));
        check.refuses(ARGUMENT, "sideCosts", () -> x.sideCosts(-1));
        check.refuses(ARGUMENT, "water", () -> x.water(1, 101));
        check.refuses(ARGUMENT, "permille", () -> x.permille(1000));
        check.refuses(ARGUMENT, "degrees", () -> x.degrees(0, 101));
        check.same("the bill stays", x.amount(0, 3), 5080);
        check.same("no tenant more", x.enter(0, 1), 1);
        x.bill();
        check.same("nothing else has changed", x.part(3), 4100);
    }
}
