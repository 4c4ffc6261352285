/** Promises 1 to 12: the facts, their bounds, and that they end the bill. */
public final class FactsTest {
    private static final Class<IllegalArgumentException> ARGUMENT = IllegalArgumentException.class;
    private static final Class<IllegalStateException> STATE = IllegalStateException.class;
    private static final Class<IndexOutOfBoundsException> INDEX = IndexOutOfBoundsException.class;
    private static final Class<UnsupportedOperationException> FULL =
            UnsupportedOperationException.class;
    private static final int NONE = HeatShares.NONE;
    private static final int[] NUMBERS_FAR_OUT = {Integer.MIN_VALUE, Integer.MAX_VALUE};
    private static final Check check = new Check();

    public static void main(String[] args) {
        promise1ANewObject();
        promise2Flat();
        promise3Reading();
        promise4Enter();
        promise5Leave();
        promise4And5Spans();
        promise6Deliver();
        promise7EndStock();
        promise8SideCosts();
        promise9Water();
        promise10Permille();
        promise11Degrees();
        promise12Prepay();
        everyFactEndsTheBill();
        whatThrowsLeavesTheBill();
        check.end();
    }

    /** Flats of 20 and 30, tenant 0 in the first; 100 units for 10000 cents, all burned. */
    private static HeatShares smallHouse() {
        HeatShares x = new HeatShares();
        x.flat(20, 10, 1);
        x.flat(30, 0, 2);
        x.enter(0, 0);
        x.deliver(100, 10000);
        x.endStock(0);
        return x;
    }

    private static void promise1ANewObject() {
        HeatShares x = new HeatShares();
        check.same("bill of no flats", x.bill(), NONE);
        check.refuses(INDEX, "replaced of no flat", () -> x.replaced(0));
        check.refuses(INDEX, "known of no flat", () -> x.known(0));
        check.refuses(INDEX, "paid of no tenant", () -> x.paid(0));
        check.refuses(INDEX, "sent of no tenant", () -> x.sent(0));
        check.same("sent to the landlord", x.sent(NONE), 0);
        check.refuses(STATE, "part of no bill", () -> x.part(0));
        check.refuses(ARGUMENT, "endStock of no fuel", () -> x.endStock(1));
        x.endStock(0);
        x.deliver(1000, 20000);
        check.same("bill of fuel without flats", x.bill(), NONE);
        x.flat(50, 50, 1);
        check.same("bill of all units", x.bill(), 2);
        check.same("no fuel before", x.part(0), 1000);
        check.same("no side costs", x.part(1), 20000);
        check.same("litres not measured: 180 of 1000", x.part(2), 3600);
        check.same("permille 500", x.part(3), 8200);
        check.same("the flat is empty", x.amount(NONE, 3), 20000);
        HeatShares y = new HeatShares();
        y.flat(50, 50, 1);
        y.deliver(1, 1);
        check.same("the end stock not given", y.bill(), NONE);
        y.endStock(0);
        y.reading(0, 0, 0);
        y.reading(0, 12, 1);
        y.leave(0, 5);
        check.same("degrees 0", y.bill(), NONE);
        y.degrees(11, 100);
        check.same("degrees 100", y.bill(), 0);
    }

    private static void promise2Flat() {
        HeatShares x = new HeatShares();
        check.refuses(ARGUMENT, "flat(0, 0, 1)", () -> x.flat(0, 0, 1));
        check.refuses(ARGUMENT, "flat(51, 0, 1)", () -> x.flat(51, 0, 1));
        check.refuses(ARGUMENT, "flat(1, -1, 1)", () -> x.flat(1, -1, 1));
        check.refuses(ARGUMENT, "flat(1, 51, 1)", () -> x.flat(1, 51, 1));
        check.refuses(ARGUMENT, "flat(1, 0, 0)", () -> x.flat(1, 0, 0));
        check.refuses(ARGUMENT, "flat(1, 0, 3)", () -> x.flat(1, 0, 3));
        for (int far : NUMBERS_FAR_OUT) {
            check.refuses(ARGUMENT, "flat(" + far + ", 1, 1)", () -> x.flat(far, 1, 1));
            check.refuses(ARGUMENT, "flat(1, " + far + ", 1)", () -> x.flat(1, far, 1));
            check.refuses(ARGUMENT, "flat(1, 1, " + far + ")", () -> x.flat(1, 1, far));
        }
        check.refuses(INDEX, "known of a refused flat", () -> x.known(0));
        for (int f = 0; f < 6; f++) {
            check.same("flat " + f, x.flat(f == 0 ? 1 : 50, f == 0 ? 0 : 50, 1 + f % 2), f);
        }
        check.refuses(FULL, "a seventh flat", () -> x.flat(1, 0, 1));
        check.refuses(ARGUMENT, "a seventh flat of area 0", () -> x.flat(0, 0, 1));
        check.same("known(5)", x.known(5), NONE);
        check.refuses(INDEX, "known(6)", () -> x.known(6));
    }

    private static void promise3Reading() {
        HeatShares x = smallHouse();
        check.refuses(INDEX, "reading of flat -1", () -> x.reading(-1, 0, 0));
        check.refuses(INDEX, "reading of flat 2", () -> x.reading(2, 0, 0));
        check.refuses(INDEX, "reading at -1", () -> x.reading(0, -1, 0));
        check.refuses(INDEX, "reading at 13", () -> x.reading(0, 13, 0));
        check.refuses(INDEX, "reading at 13 of 100", () -> x.reading(0, 13, 100));
        check.refuses(ARGUMENT, "reading of -2", () -> x.reading(0, 0, -2));
        check.refuses(ARGUMENT, "reading of 100", () -> x.reading(0, 12, 100));
        for (int far : NUMBERS_FAR_OUT) {
            check.refuses(INDEX, "reading of flat " + far, () -> x.reading(far, 0, 0));
            check.refuses(INDEX, "reading at " + far, () -> x.reading(0, far, 0));
            check.refuses(ARGUMENT, "reading of " + far, () -> x.reading(0, 0, far));
        }
        check.same("no readings", x.replaced(0), HeatShares.CANNOT);
        x.reading(0, 12, 99);
        check.same("one reading", x.replaced(0), HeatShares.CANNOT);
        x.reading(0, 0, 0);
        check.same("two readings", x.replaced(0), HeatShares.READ);
        x.reading(0, 12, -1);
        check.same("one taken away", x.replaced(0), HeatShares.CANNOT);
        x.reading(0, 0, 50);
        x.reading(0, 12, 60);
        x.reading(1, 0, 5);
        x.reading(1, 12, 20);
        check.same("bill of 10 and 2 * 15 units", x.bill(), 0);
        check.same("metered of 10 units of 40", x.amount(0, 1), 1025);
        check.same("metered of 30 units of 40", x.amount(NONE, 1), 3075);
        x.reading(0, 12, 65);
        x.bill();
        check.same("a reading said anew: 15 units of 45", x.amount(0, 1), 1367);
    }

    private static void promise4Enter() {
        HeatShares x = new HeatShares();
        check.refuses(INDEX, "enter without flats", () -> x.enter(0, 0));
        x.flat(10, 10, 1);
        x.flat(10, 10, 1);
        check.refuses(INDEX, "enter flat -1", () -> x.enter(-1, 0));
        check.refuses(INDEX, "enter flat 2", () -> x.enter(2, 0));
        check.refuses(INDEX, "enter at -1", () -> x.enter(0, -1));
        check.refuses(INDEX, "enter at 12", () -> x.enter(0, 12));
        for (int far : NUMBERS_FAR_OUT) {
            check.refuses(INDEX, "enter flat " + far, () -> x.enter(far, 0));
            check.refuses(INDEX, "enter at " + far, () -> x.enter(0, far));
        }
        for (int n = 0; n < 19; n++) {
            check.same("tenant", x.enter(n / 12, n % 12), n);
        }
        check.refuses(STATE, "enter at a change", () -> x.enter(0, 11));
        x.leave(1, 7);
        check.refuses(STATE, "enter where one left", () -> x.enter(1, 7));
        check.same("the last tenant", x.enter(1, 11), 19);
        check.refuses(FULL, "a tenant more", () -> x.enter(1, 8));
        check.refuses(STATE, "a tenant more at a change", () -> x.enter(1, 7));
        check.refuses(INDEX, "a tenant more at 12", () -> x.enter(1, 12));
        x.leave(1, 8);
        check.same("paid(19)", x.paid(19), 0);
        check.refuses(INDEX, "paid(20)", () -> x.paid(20));
    }

    private static void promise5Leave() {
        HeatShares x = new HeatShares();
        check.refuses(INDEX, "leave without flats", () -> x.leave(0, 0));
        x.flat(10, 10, 1);
        check.refuses(INDEX, "leave flat -1", () -> x.leave(-1, 0));
        check.refuses(INDEX, "leave flat 1", () -> x.leave(1, 0));
        check.refuses(INDEX, "leave at -1", () -> x.leave(0, -1));
        check.refuses(INDEX, "leave at 12", () -> x.leave(0, 12));
        for (int far : NUMBERS_FAR_OUT) {
            check.refuses(INDEX, "leave flat " + far, () -> x.leave(far, 0));
            check.refuses(INDEX, "leave at " + far, () -> x.leave(0, far));
        }
        x.leave(0, 0);
        check.refuses(STATE, "leave again", () -> x.leave(0, 0));
        x.enter(0, 11);
        check.refuses(STATE, "leave where one came", () -> x.leave(0, 11));
        x.leave(0, 10);
        x.leave(0, 9);
    }

    /** One flat of 1200 cents of fixed part: a month is 100 cents. */
    private static void promise4And5Spans() {
        HeatShares x = new HeatShares();
        x.flat(7, 7, 1);
        x.deliver(1, 2400);
        x.endStock(0);
        x.enter(0, 8);
        x.leave(0, 6);
        x.enter(0, 3);
        x.leave(0, 11);
        check.same("bill by area", x.bill(), 2);
        check.same("water of one unit", x.part(2), 0);
        check.same("months 8, 9, 10", x.amount(0, 0), 300);
        check.same("months 3, 4, 5", x.amount(1, 0), 300);
        check.same("months 0, 1, 2, 6, 7, 11", x.amount(NONE, 0), 600);
        x.enter(0, 0);
        x.bill();
        check.same("months 0, 1, 2", x.amount(2, 0), 300);
        check.same("months 6, 7, 11", x.amount(NONE, 0), 300);
    }

    private static void promise6Deliver() {
        HeatShares x = new HeatShares();
        x.flat(1, 1, 1);
        check.refuses(ARGUMENT, "deliver(0, 1)", () -> x.deliver(0, 1));
        check.refuses(ARGUMENT, "deliver(1001, 1)", () -> x.deliver(1001, 1));
        check.refuses(ARGUMENT, "deliver(1, -1)", () -> x.deliver(1, -1));
        check.refuses(ARGUMENT, "deliver(1, 20001)", () -> x.deliver(1, 20001));
        for (int far : NUMBERS_FAR_OUT) {
            check.refuses(ARGUMENT, "deliver(" + far + ", 1)", () -> x.deliver(far, 1));
            check.refuses(ARGUMENT, "deliver(1, " + far + ")", () -> x.deliver(1, far));
        }
        x.endStock(0);
        check.same("refused deliveries lie nowhere", x.bill(), NONE);
        for (int n = 0; n < 6; n++) {
            x.deliver(1000, 20000);
            x.deliver(1, 0);
        }
        check.refuses(FULL, "a thirteenth layer", () -> x.deliver(1, 0));
        check.refuses(ARGUMENT, "a thirteenth layer of nothing", () -> x.deliver(0, 0));
        x.bill();
        check.same("burned", x.part(0), 6006);
        check.same("cost", x.part(1), 120000);
    }

    private static void promise7EndStock() {
        HeatShares x = new HeatShares();
        x.flat(1, 1, 1);
        x.deliver(10, 1000);
        x.deliver(7, 500);
        x.deliver(5, 900);
        check.refuses(ARGUMENT, "endStock(-2)", () -> x.endStock(-2));
        check.refuses(ARGUMENT, "endStock(23)", () -> x.endStock(23));
        for (int far : NUMBERS_FAR_OUT) {
            check.refuses(ARGUMENT, "endStock(" + far + ")", () -> x.endStock(far));
        }
        check.same("it is not given", x.bill(), NONE);
        x.endStock(22);
        check.same("nothing burned", x.bill(), NONE);
        checkStock(x, 21, 1, 100);
        checkStock(x, 12, 10, 1000);
        checkStock(x, 8, 14, 1500 - 500 * 3 / 7);
        checkStock(x, 5, 17, 1500);
        checkStock(x, 4, 18, 1500 + 900 - 720);
        checkStock(x, 0, 22, 2400);
        x.endStock(-1);
        check.same("it is taken away", x.bill(), NONE);
        x.endStock(3);
        x.deliver(2, 100);
        x.bill();
        check.same("a delivery leaves the end stock", x.part(0), 21);
        check.same("one of the layer before it", x.part(1), 2500 - 100 - 180);
    }

    private static void checkStock(HeatShares x, int stock, int burned, int cost) {
        x.endStock(stock);
        x.bill();
        check.same("burned with end stock " + stock, x.part(0), burned);
        check.same("cost with end stock " + stock, x.part(1), cost);
    }

    private static void promise8SideCosts() {
        HeatShares x = smallHouse();
        check.refuses(ARGUMENT, "sideCosts(-1)", () -> x.sideCosts(-1));
        check.refuses(ARGUMENT, "sideCosts(20001)", () -> x.sideCosts(20001));
        for (int far : NUMBERS_FAR_OUT) {
            check.refuses(ARGUMENT, "sideCosts(" + far + ")", () -> x.sideCosts(far));
        }
        x.sideCosts(20000);
        x.bill();
        check.same("cost with side costs", x.part(1), 30000);
        x.sideCosts(17);
        x.bill();
        check.same("side costs said anew", x.part(1), 10017);
        x.sideCosts(0);
        x.bill();
        check.same("no side costs", x.part(1), 10000);
    }

    private static void promise9Water() {
        HeatShares x = smallHouse();
        check.refuses(ARGUMENT, "water(-2, 0)", () -> x.water(-2, 0));
        check.refuses(ARGUMENT, "water(10000001, 0)", () -> x.water(10000001, 0));
        check.refuses(ARGUMENT, "water(0, -1)", () -> x.water(0, -1));
        check.refuses(ARGUMENT, "water(0, 101)", () -> x.water(0, 101));
        check.refuses(ARGUMENT, "water(-1, 101)", () -> x.water(-1, 101));
        for (int far : NUMBERS_FAR_OUT) {
            check.refuses(ARGUMENT, "water(" + far + ", 0)", () -> x.water(far, 0));
            check.refuses(ARGUMENT, "water(0, " + far + ")", () -> x.water(0, far));
        }
        checkWater(x, -1, 50, 1800);
        checkWater(x, 0, 50, 0);
        checkWater(x, 1000, 0, 0);
        checkWater(x, 1000, 17, 1900);
        checkWater(x, 869, 1, 0);
        checkWater(x, 870, 1, 100);
        checkWater(x, 1000, 35, 4000);
        checkWater(x, 10000000, 100, 4000);
        checkWater(x, -1, 100, 1800);
        x.endStock(1);
        checkWater(x, -1, 0, 17 * 100);
        checkWater(x, 10000000, 100, 39 * 100);
    }

    private static void checkWater(HeatShares x, int litres, int gap, int part) {
        x.water(litres, gap);
        x.bill();
        check.same("water part of water(" + litres + ", " + gap + ")", x.part(2), part);
    }

    private static void promise10Permille() {
        HeatShares x = smallHouse();
        check.refuses(ARGUMENT, "permille(299)", () -> x.permille(299));
        check.refuses(ARGUMENT, "permille(701)", () -> x.permille(701));
        for (int far : NUMBERS_FAR_OUT) {
            check.refuses(ARGUMENT, "permille(" + far + ")", () -> x.permille(far));
        }
        x.permille(300);
        x.bill();
        check.same("fixed by 300", x.part(3), 2460);
        check.same("metered by 300", x.part(4), 5740);
        x.permille(700);
        x.bill();
        check.same("fixed by 700", x.part(3), 5740);
        x.sideCosts(3);
        x.permille(333);
        x.bill();
        check.same("water of 10003", x.part(2), 1800);
        check.same("fixed rounded down", x.part(3), 8203 * 333 / 1000);
        check.same("metered has the rest", x.part(4), 8203 - 8203 * 333 / 1000);
    }

    private static void promise11Degrees() {
        HeatShares x = new HeatShares();
        x.flat(10, 10, 1);
        x.deliver(1, 2000);
        x.endStock(0);
        x.reading(0, 0, 0);
        x.reading(0, 12, 10);
        x.enter(0, 6);
        check.refuses(INDEX, "degrees(-1, 0)", () -> x.degrees(-1, 0));
        check.refuses(INDEX, "degrees(12, 0)", () -> x.degrees(12, 0));
        check.refuses(INDEX, "degrees(12, 101)", () -> x.degrees(12, 101));
        check.refuses(ARGUMENT, "degrees(0, -1)", () -> x.degrees(0, -1));
        check.refuses(ARGUMENT, "degrees(11, 101)", () -> x.degrees(11, 101));
        for (int far : NUMBERS_FAR_OUT) {
            check.refuses(INDEX, "degrees(" + far + ", 1)", () -> x.degrees(far, 1));
            check.refuses(ARGUMENT, "degrees(1, " + far + ")", () -> x.degrees(1, far));
        }
        x.degrees(0, 100);
        x.degrees(11, 100);
        check.same("200 in all", x.bill(), NONE);
        x.degrees(0, 69);
        x.degrees(11, 30);
        check.same("99 in all", x.bill(), NONE);
        x.degrees(0, 70);
        check.same("100 in all", x.bill(), 0);
        check.same("30 of 100 of the metered part", x.amount(0, 1), 300);
        check.same("half of the fixed part", x.amount(0, 0), 500);
        x.degrees(0, 0);
        x.degrees(11, 100);
        x.bill();
        check.same("degrees said anew", x.amount(0, 1), 1000);
    }

    private static void promise12Prepay() {
        HeatShares x = smallHouse();
        x.bill();
        check.refuses(INDEX, "prepay(-1, 1)", () -> x.prepay(-1, 1));
        check.refuses(INDEX, "prepay(1, 1)", () -> x.prepay(1, 1));
        check.refuses(INDEX, "prepay(1, -1)", () -> x.prepay(1, -1));
        check.refuses(ARGUMENT, "prepay(0, -1)", () -> x.prepay(0, -1));
        check.refuses(ARGUMENT, "prepay(0, 20001)", () -> x.prepay(0, 20001));
        for (int far : NUMBERS_FAR_OUT) {
            check.refuses(INDEX, "prepay(" + far + ", 1)", () -> x.prepay(far, 1));
            check.refuses(ARGUMENT, "prepay(0, " + far + ")", () -> x.prepay(0, far));
        }
        check.same("nothing paid", x.paid(0), 0);
        x.prepay(0, 0);
        x.prepay(0, 20000);
        for (int n = 0; n < 48; n++) {
            x.prepay(0, 20000);
        }
        x.prepay(0, 19999);
        check.same("paid", x.paid(0), 999999);
        check.refuses(ARGUMENT, "prepay of more than 1000000", () -> x.prepay(0, 2));
        check.same("paid as before", x.paid(0), 999999);
        x.prepay(0, 1);
        check.same("paid 1000000", x.paid(0), 1000000);
        x.prepay(0, 0);
        check.refuses(ARGUMENT, "prepay of one more", () -> x.prepay(0, 1));
        check.same("it ends no bill", x.part(0), 100);
    }

    private static void everyFactEndsTheBill() {
        HeatShares x = smallHouse();
        endsTheBill(x, "reading", () -> x.reading(0, 5, 1));
        endsTheBill(x, "the same reading", () -> x.reading(0, 5, 1));
        endsTheBill(x, "no reading", () -> x.reading(1, 5, -1));
        endsTheBill(x, "enter", () -> x.enter(0, 5));
        endsTheBill(x, "leave", () -> x.leave(1, 0));
        endsTheBill(x, "deliver", () -> x.deliver(1, 1));
        endsTheBill(x, "endStock", () -> x.endStock(1));
        endsTheBill(x, "the same endStock", () -> x.endStock(1));
        endsTheBill(x, "the same sideCosts", () -> x.sideCosts(0));
        endsTheBill(x, "the same water", () -> x.water(-1, 0));
        endsTheBill(x, "the same permille", () -> x.permille(500));
        endsTheBill(x, "the same degrees", () -> x.degrees(3, 0));
        endsTheBill(x, "flat", () -> x.flat(1, 1, 1));
        x.endStock(-1);
        check.refuses(STATE, "part after endStock(-1)", () -> x.part(0));
    }

    private static void endsTheBill(HeatShares x, String what, Runnable call) {
        check.same("bill before " + what, x.bill(), 2);
        call.run();
        check.refuses(STATE, "part after " + what, () -> x.part(0));
        check.refuses(STATE, "amount after " + what, () -> x.amount(NONE, 0));
        check.refuses(STATE, "send after " + what, x::send);
        check.refuses(STATE, "closeYear after " + what, x::closeYear);
    }

    private static void whatThrowsLeavesTheBill() {
        HeatShares x = smallHouse();
        x.bill();
        check.refuses(ARGUMENT, "flat", () -> x.flat(0, 0, 0));
        check.refuses(ARGUMENT, "reading", () -> x.reading(0, 0, 100));
        check.refuses(STATE, "enter", () -> x.enter(0, 0));
        check.refuses(STATE, "leave", () -> x.leave(0, 0));
        check.refuses(ARGUMENT, "deliver", () -> x.deliver(0, 0));
        check.refuses(ARGUMENT, "endStock", () -> x.endStock(101));
        check.refuses(ARGUMENT, "sideCosts", () -> x.sideCosts(-1));
        check.refuses(ARGUMENT, "water", () -> x.water(1, 101));
        check.refuses(ARGUMENT, "permille", () -> x.permille(1000));
        check.refuses(ARGUMENT, "degrees", () -> x.degrees(0, 101));
        check.same("the bill stays", x.amount(0, 3), 5080);
        check.same("no tenant more", x.enter(0, 1), 1);
        x.bill();
        check.same("nothing else has changed", x.part(3), 4100);
    }
}
