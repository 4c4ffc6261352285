/** Promises 13 to 17: the bill, how it is shared, and what it tells. */
public final class BillTest {
    private static final Class<IllegalStateException> STATE = IllegalStateException.class;
    private static final Class<IndexOutOfBoundsException> INDEX = IndexOutOfBoundsException.class;
    private static final int NONE = HeatShares.NONE;
    private static final Check check = new Check();

    public static void main(String[] args) {
        check.test("13 bill: when it can be made", BillTest::promise13WhenItCanBeMade);
        check.test("13 bill: by meters or by area", BillTest::promise13ByMetersOrByArea);
        check.test("13 bill: when degrees are needed", BillTest::promise13WhenDegreesAreNeeded);
        check.test("13 bill: cents that are left", BillTest::promise13CentsThatAreLeft);
        check.test("13 bill: stretches", BillTest::promise13Stretches);
        check.test("13 bill: no degrees", BillTest::promise13StretchesWithoutDegrees);
        check.test("13 bill: equal fractions", BillTest::promise13EqualFractionsOfCutStretches);
        check.test("13 bill: replaced units", BillTest::promise13ReplacedUnits);
        check.test("13 bill: made twice it says the same", BillTest::billMadeTwice);
        check.test("13 bill: NONE leaves no bill", BillTest::noBillAfterNone);
        check.test("14 amount", BillTest::promise14Amount);
        check.test("14 amount: a tenant who has no span", BillTest::amountWithoutSpan);
        check.test("14 amount: all amounts are the cost", BillTest::amountsSumUp);
        check.test("15 paid", BillTest::promise15Paid);
        check.test("15 paid: whether there is a bill or not", BillTest::paidWithoutBill);
        check.test("16 part", BillTest::promise16Part);
        check.test("16 part: the least bill", BillTest::leastParts);
        check.test("17 replaced", BillTest::promise17Replaced);
        check.test("17 replaced: by the facts as they are (bill or not)",
                BillTest::replacedByTheFacts);
        check.end();
    }

    private static void promise13WhenItCanBeMade() {
        HeatShares x = new HeatShares();
        x.deliver(5, 100);
        x.endStock(0);
        check.same("no flat", x.bill(), NONE);
        x.flat(1, 0, 1);
        check.same("a flat", x.bill(), 2);
        check.same("the bill again", x.bill(), 2);
        x.endStock(5);
        check.same("nothing burned", x.bill(), NONE);
        check.refuses(STATE, "part of no bill", () -> x.part(0));
        x.endStock(4);
        check.same("one unit burned", x.bill(), 2);
        x.endStock(-1);
        check.same("no end stock", x.bill(), NONE);
        HeatShares free = Houses.fuelled(0);
        free.flat(1, 0, 1);
        check.same("fuel for nothing", free.bill(), 2);
        check.same("its cost", free.part(1), 0);
        check.same("its amount", free.amount(NONE, 3), 0);
    }

    private static void promise13ByMetersOrByArea() {
        HeatShares x = Houses.fuelled(800);
        x.flat(30, 0, 1);
        x.flat(10, 0, 1);
        x.enter(1, 0);
        check.same("no meter is read", x.bill(), 2);
        check.same("10 of 40 by area", x.amount(0, 1), 100);
        Houses.read(x, 0, 0, 30);
        check.same("a quarter is replaced", x.bill(), 0);
        check.same("10 of 40 by meters", x.amount(0, 1), 100);
        Houses.read(x, 0, 7, 7);
        check.same("all units are 0", x.bill(), 2);
        Houses.read(x, 1, 0, 1);
        check.same("all are read", x.bill(), 0);
        check.same("all units are of flat 1", x.amount(0, 1), 400);
        HeatShares y = Houses.fuelled(800);
        y.flat(30, 0, 1);
        y.flat(11, 0, 1);
        Houses.read(y, 0, 0, 30);
        check.same("more than a quarter is replaced", y.bill(), 2);
        HeatShares least = Houses.fuelled(800);
        least.flat(1, 0, 1);
        Houses.read(least, 0, 98, 99);
        check.same("one unit of a flat of area 1", least.bill(), 0);
    }

    private static void promise13WhenDegreesAreNeeded() {
        HeatShares x = Houses.fuelled(800);
        x.flat(30, 0, 1);
        x.flat(10, 0, 1);
        Houses.read(x, 0, 0, 10);
        check.same("no change", x.bill(), 0);
        x.enter(0, 0);
        x.leave(1, 0);
        check.same("changes at 0", x.bill(), 0);
        x.enter(0, 4);
        check.same("a change in a stretch", x.bill(), NONE);
        x.reading(0, 4, 0);
        check.same("a change at a reading", x.bill(), 0);
        check.same("all units after it", x.amount(1, 1), 300);
        x.reading(0, 5, 0);
        x.leave(0, 5);
        x.leave(0, 3);
        check.same("a change in a stretch of no units", x.bill(), NONE);
        x.reading(0, 3, 0);
        check.same("a change at each reading", x.bill(), 0);
        x.leave(1, 11);
        check.same("an empty flat that is left, with a replaced meter", x.bill(), NONE);
        x.reading(1, 11, 9);
        check.same("readings of a replaced meter part nothing", x.bill(), NONE);
        Houses.setDegrees(x, 99, 1);
        check.same("degrees of 100", x.bill(), 0);
        Houses.setDegrees(x, 99);
        check.same("degrees of 99", x.bill(), NONE);
        x.reading(0, 12, -1);
        check.same("by area they are not needed", x.bill(), 2);
    }

    private static void promise13CentsThatAreLeft() {
        HeatShares x = Houses.fuelled(20);
        x.flat(1, 0, 1);
        x.flat(1, 0, 1);
        x.flat(1, 0, 1);
        x.enter(0, 0);
        x.enter(1, 0);
        x.enter(2, 0);
        x.bill();
        checkFixed("equal fractions", x, 4, 3, 3);
        HeatShares y = Houses.fuelled(20);
        y.flat(1, 0, 1);
        y.flat(2, 0, 1);
        y.enter(0, 0);
        y.enter(1, 0);
        y.bill();
        checkFixed("the greater fraction", y, 3, 7);
        HeatShares z = Houses.fuelled(20);
        z.flat(3, 0, 1);
        z.enter(0, 8);
        z.enter(0, 4);
        z.enter(0, 0);
        z.bill();
        checkFixed("the earlier span", z, 3, 3, 4);
        HeatShares w = Houses.fuelled(22);
        w.flat(3, 0, 1);
        w.enter(0, 8);
        w.enter(0, 4);
        w.enter(0, 0);
        w.bill();
        checkFixed("two cents are left", w, 3, 4, 4);
    }

    private static void checkFixed(String what, HeatShares x, int... cents) {
        for (int t = 0; t < cents.length; t++) {
            check.same(what + ": fixed of tenant " + t, x.amount(t, 0), cents[t]);
        }
    }

    private static void promise13Stretches() {
        HeatShares x = Houses.fuelled(4000);
        x.flat(5, 0, 1);
        Houses.read(x, 0, 10, 30);
        x.reading(0, 3, 16);
        x.enter(0, 6);
        Houses.setDegrees(x, 10, 10, 10, 10, 10, 10, 40);
        check.same("bill", x.bill(), 0);
        check.same("14 units * 40 / 70 of 20", x.amount(0, 1), 800);
        check.same("what is left of 20", x.amount(NONE, 1), 1200);
    }

    private static void promise13StretchesWithoutDegrees() {
        HeatShares x = Houses.fuelled(4000);
        x.flat(5, 0, 2);
        Houses.read(x, 0, 10, 20);
        x.reading(0, 3, 13);
        x.enter(0, 6);
        Houses.setDegrees(x, 100);
        check.same("bill", x.bill(), 0);
        check.same("14 units * 6 / 9 of 20", x.amount(0, 1), 933);
        check.same("6 + 14 units * 3 / 9 of 20", x.amount(NONE, 1), 1067);
    }

    /** The shares are 350, 842.5 and 907.5, the last two over divisors that differ. */
    private static void promise13EqualFractionsOfCutStretches() {
        HeatShares x = Houses.fuelled(4200);
        x.flat(5, 0, 1);
        Houses.read(x, 0, 0, 21);
        x.reading(0, 4, 7);
        x.reading(0, 8, 10);
        x.enter(0, 0);
        x.enter(0, 2);
        x.enter(0, 10);
        Houses.setDegrees(x, 10, 5, 5, 10, 0, 30, 0, 0, 3, 4, 5, 28);
        check.same("bill", x.bill(), 0);
        check.same("the first span", x.amount(0, 1), 350);
        check.same("the second span", x.amount(1, 1), 843);
        check.same("the third span", x.amount(2, 1), 907);
    }

    /** By like flats flat 0 would have 50 * 990 / 152 units, but has 200. */
    private static void promise13ReplacedUnits() {
        HeatShares x = Houses.fuelled(2380);
        x.flat(50, 0, 1);
        for (int f = 1; f < 6; f++) {
            x.flat(f < 4 ? 50 : 1, 0, 2);
            Houses.read(x, f, 0, 99);
        }
        x.enter(0, 0);
        check.same("bill", x.bill(), 0);
        check.same("200 units of 1190", x.amount(0, 1), 200);
        HeatShares y = Houses.fuelled(2000);
        y.flat(7, 0, 1);
        y.flat(2, 0, 2);
        Houses.read(y, 0, 0, 5);
        y.enter(1, 0);
        check.same("bill with a fraction", y.bill(), 0);
        check.same("10/7 units of 45/7", y.amount(0, 1), 222);
    }

    private static void billMadeTwice() {
        HeatShares x = Houses.busy();
        check.same("bill", x.bill(), 0);
        int[] amounts = new int[5];
        for (int t = 0; t < 5; t++) {
            amounts[t] = x.amount(t - 1, 3);
        }
        check.same("bill again", x.bill(), 0);
        for (int t = 0; t < 5; t++) {
            check.same("amount of " + (t - 1), x.amount(t - 1, 3), amounts[t]);
        }
    }

    private static void noBillAfterNone() {
        HeatShares x = Houses.busyBilled();
        x.degrees(0, 18);
        check.same("degrees of 99", x.bill(), NONE);
        check.refuses(STATE, "part", () -> x.part(0));
        check.refuses(STATE, "amount", () -> x.amount(0, 0));
        check.refuses(STATE, "send", x::send);
        check.refuses(STATE, "closeYear", x::closeYear);
        x.degrees(0, 19);
        check.same("degrees of 100", x.bill(), 0);
        check.takes("part", () -> x.part(0));
    }

    private static void promise14Amount() {
        HeatShares x = new HeatShares();
        x.flat(20, 10, 1);
        x.flat(30, 0, 2);
        check.refuses(STATE, "amount of no bill", () -> x.amount(NONE, 0));
        check.refuses(STATE, "amount of nobody's bill", () -> x.amount(7, 9));
        x.enter(0, 0);
        x.deliver(100, 10000);
        x.endStock(0);
        Houses.read(x, 0, 0, 10);
        Houses.read(x, 1, 0, 15);
        check.same("bill", x.bill(), 0);
        checkAmounts(x, 0, 1640, 1025, 1800);
        checkAmounts(x, NONE, 2460, 3075, 0);
        check.refuses(INDEX, "amount(-2, 0)", () -> x.amount(-2, 0));
        check.refuses(INDEX, "amount(1, 0)", () -> x.amount(1, 0));
        check.refuses(INDEX, "amount(0, -1)", () -> x.amount(0, -1));
        check.refuses(INDEX, "amount(0, 4)", () -> x.amount(0, 4));
        check.refuses(INDEX, "amount(least, 0)", () -> x.amount(Integer.MIN_VALUE, 0));
        check.refuses(INDEX, "amount(most, 0)", () -> x.amount(Integer.MAX_VALUE, 0));
        check.refuses(INDEX, "amount(0, most)", () -> x.amount(0, Integer.MAX_VALUE));
        HeatShares dry = new HeatShares();
        dry.flat(20, 0, 1);
        dry.flat(30, 0, 2);
        dry.enter(0, 0);
        dry.deliver(100, 10000);
        dry.endStock(0);
        dry.bill();
        checkAmounts(dry, 0, 1640, 1640, 720);
        checkAmounts(dry, NONE, 2460, 2460, 1080);
        dry.flat(50, 1, 1);
        dry.bill();
        checkAmounts(dry, 0, 820, 820, 0);
        checkAmounts(dry, NONE, 3280, 3280, 1800);
    }

    private static void checkAmounts(HeatShares x, int tenant, int fixed, int metered, int water) {
        check.same("fixed of " + tenant, x.amount(tenant, 0), fixed);
        check.same("metered of " + tenant, x.amount(tenant, 1), metered);
        check.same("water of " + tenant, x.amount(tenant, 2), water);
        check.same("all of " + tenant, x.amount(tenant, 3), fixed + metered + water);
    }

    private static void amountWithoutSpan() {
        HeatShares x = Houses.fuelled(2400);
        x.flat(10, 10, 1);
        x.enter(0, 0);
        x.bill();
        checkAmounts(x, NONE, 0, 0, 0);
        x.closeYear();
        x.leave(0, 0);
        Houses.refuel(x, 2400);
        x.bill();
        checkAmounts(x, 0, 0, 0, 0);
        checkAmounts(x, NONE, 1200, 1200, 0);
    }

    private static void amountsSumUp() {
        HeatShares x = Houses.busyBilled();
        int[] parts = {3, 4, 2, 1};
        for (int what = 0; what < 4; what++) {
            int sum = 0;
            for (int t = -1; t < 4; t++) {
                sum += x.amount(t, what);
            }
            check.same("the sum of what " + what, sum, x.part(parts[what]));
        }
    }

    private static void paidWithoutBill() {
        HeatShares x = new HeatShares();
        x.flat(1, 1, 1);
        x.enter(0, 0);
        check.same("nothing", x.paid(0), 0);
        x.prepay(0, 1);
        check.same("no bill can be made", x.bill(), NONE);
        check.same("it was paid all the same", x.paid(0), 1);
        Houses.refuel(x, 100);
        x.bill();
        x.prepay(0, 1);
        check.same("and after the bill", x.paid(0), 2);
        x.send();
        check.same("and after it was sent", x.paid(0), 2);
    }

    private static void promise15Paid() {
        HeatShares x = Houses.fuelled(100);
        x.flat(1, 1, 1);
        x.enter(0, 0);
        x.enter(0, 1);
        x.prepay(0, 30);
        x.prepay(1, 7);
        x.prepay(0, 12);
        check.same("paid(0)", x.paid(0), 42);
        check.same("paid(1)", x.paid(1), 7);
        check.refuses(INDEX, "paid(-1)", () -> x.paid(-1));
        check.refuses(INDEX, "paid(2)", () -> x.paid(2));
        check.refuses(INDEX, "paid(least)", () -> x.paid(Integer.MIN_VALUE));
        check.refuses(INDEX, "paid(most)", () -> x.paid(Integer.MAX_VALUE));
        x.bill();
        x.send();
        check.same("paid(0) after send", x.paid(0), 42);
        x.closeYear();
        check.same("paid(0) after closeYear", x.paid(0), 0);
        check.same("paid(1) after closeYear", x.paid(1), 0);
        x.prepay(0, 5);
        check.same("paid(0) in the next year", x.paid(0), 5);
    }

    private static void promise16Part() {
        HeatShares x = new HeatShares();
        check.refuses(STATE, "part(0) of no bill", () -> x.part(0));
        check.refuses(STATE, "part(9) of no bill", () -> x.part(9));
        x.flat(1, 1, 1);
        x.deliver(100, 9000);
        x.deliver(200, 20000);
        x.endStock(50);
        x.sideCosts(77);
        x.bill();
        check.same("burned", x.part(0), 250);
        check.same("cost", x.part(1), 24077);
        check.same("water part", x.part(2), 24077 * 45 / 250);
        check.same("fixed part", x.part(3), (24077 - 4333) / 2);
        check.same("metered part", x.part(4), 24077 - 4333 - 9872);
        check.refuses(INDEX, "part(-1)", () -> x.part(-1));
        check.refuses(INDEX, "part(5)", () -> x.part(5));
        check.refuses(INDEX, "part(least)", () -> x.part(Integer.MIN_VALUE));
        check.refuses(INDEX, "part(most)", () -> x.part(Integer.MAX_VALUE));
    }

    private static void leastParts() {
        HeatShares x = Houses.fuelled(0);
        x.flat(1, 1, 1);
        x.bill();
        check.same("burned", x.part(0), 1);
        for (int what = 1; what < 5; what++) {
            check.same("part " + what + " of no cents", x.part(what), 0);
        }
        x.sideCosts(1);
        x.bill();
        check.same("cost of one cent", x.part(1), 1);
        check.same("no water part", x.part(2), 0);
        check.same("no fixed part", x.part(3), 0);
        check.same("the cent is metered", x.part(4), 1);
    }

    private static void replacedByTheFacts() {
        HeatShares x = Houses.busy();
        check.same("before the bill", x.replaced(2), HeatShares.LIKE);
        x.bill();
        check.same("with the bill", x.replaced(2), HeatShares.LIKE);
        x.reading(2, 12, 7);
        check.same("after a fact", x.replaced(2), HeatShares.READ);
        x.reading(2, 12, -1);
        x.bill();
        x.closeYear();
        check.same("after the year", x.replaced(2), HeatShares.CANNOT);
        x.reading(0, 12, 60);
        check.same("without a bill of the year", x.replaced(2), HeatShares.LAST);
    }

    private static void promise17Replaced() {
        HeatShares x = new HeatShares();
        x.flat(50, 1, 1);
        x.flat(50, 1, 1);
        check.refuses(INDEX, "replaced(-1)", () -> x.replaced(-1));
        check.refuses(INDEX, "replaced(2)", () -> x.replaced(2));
        check.refuses(INDEX, "replaced(least)", () -> x.replaced(Integer.MIN_VALUE));
        check.refuses(INDEX, "replaced(most)", () -> x.replaced(Integer.MAX_VALUE));
        check.same("nothing is read", x.replaced(0), HeatShares.CANNOT);
        Houses.read(x, 0, 5, 5);
        check.same("equal readings are read", x.replaced(0), HeatShares.READ);
        check.same("like flats of no units", x.replaced(1), HeatShares.LIKE);
        x.reading(0, 7, 6);
        check.same("a last one that is less", x.replaced(0), HeatShares.CANNOT);
        check.same("nothing like it", x.replaced(1), HeatShares.CANNOT);
        Houses.read(x, 0, 5, 9);
        x.reading(0, 8, 6);
        check.same("none is less", x.replaced(0), HeatShares.READ);
        x.reading(0, 8, 5);
        check.same("one between is less", x.replaced(0), HeatShares.CANNOT);
        x.reading(0, 7, -1);
        check.same("the one before is gone", x.replaced(0), HeatShares.READ);
        x.reading(0, 0, -1);
        check.same("none at 0", x.replaced(0), HeatShares.CANNOT);
        Houses.read(x, 0, 0, -1);
        check.same("none at 12", x.replaced(0), HeatShares.CANNOT);
        Houses.read(x, 1, 9, 8);
        check.same("last less than first", x.replaced(1), HeatShares.CANNOT);
    }
}
