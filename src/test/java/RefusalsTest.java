import java.util.ArrayList;
import java.util.List;
import java.util.function.Consumer;
import java.util.function.Supplier;

/**
 * What each promise refuses: the last value that is taken and the first that is refused, the
 * exception that is named first where several fit, and that a refused call changes nothing.
 */
public final class RefusalsTest {
    private static final Class<IllegalArgumentException> ARGUMENT = IllegalArgumentException.class;
    private static final Class<IllegalStateException> STATE = IllegalStateException.class;
    private static final Class<IndexOutOfBoundsException> INDEX = IndexOutOfBoundsException.class;
    private static final Class<UnsupportedOperationException> FULL =
            UnsupportedOperationException.class;
    private static final int NONE = HeatShares.NONE;
    private static final int LEAST = Integer.MIN_VALUE;
    private static final int MOST = Integer.MAX_VALUE;
    private static final Check check = new Check();

    /** A call that is refused, and how. */
    private record Refusal(Class<? extends RuntimeException> kind, String text,
            Consumer<HeatShares> call) {
    }

    public static void main(String[] args) {
        refusalsOfFacts();
        refusalsOfAnswers();
        namedFirst();
        changesNothing();
        check.end();
    }

    private static void refusalsOfFacts() {
        check.test("2 flat: area, water area or factor is not as said", RefusalsTest::flat);
        check.test("2 flat: when there are six", RefusalsTest::sixFlats);
        check.test("3 reading: there is no such flat or time", RefusalsTest::readingWhere);
        check.test("3 reading: when value is not -1 .. 99", RefusalsTest::readingValue);
        check.test("4 enter: there is no such flat", RefusalsTest::enterFlat);
        check.test("4 enter: there is no such time, also for time 12", RefusalsTest::enterTime);
        check.test("4 enter: when the flat has a change at that time", RefusalsTest::enterChange);
        check.test("4 enter: when there are 20 tenants", RefusalsTest::enterFull);
        check.test("5 leave: there is no such flat", RefusalsTest::leaveFlat);
        check.test("5 leave: there is no such time, also for time 12", RefusalsTest::leaveTime);
        check.test("5 leave: when the flat has a change at that time", RefusalsTest::leaveChange);
        check.test("5 leave: also if it was so before", RefusalsTest::leaveAnEmptyFlat);
        check.test("6 deliver: when units is not 1 .. 1000", RefusalsTest::deliverUnits);
        check.test("6 deliver: or cents not 0 .. 20000", RefusalsTest::deliverCents);
        check.test("6 deliver: when there are twelve layers", RefusalsTest::deliverFull);
        check.test("7 endStock: less than -1, or more than all units", RefusalsTest::endStock);
        check.test("7 endStock: no fuel", RefusalsTest::endStockOfNoFuel);
        check.test("7 endStock: the units of both years", RefusalsTest::endStockOfBothYears);
        check.test("8 sideCosts: when they are not 0 .. 20000", RefusalsTest::sideCosts);
        check.test("9 water: when litres is not -1 .. 10000000", RefusalsTest::waterLitres);
        check.test("9 water: or gap not 0 .. 100", RefusalsTest::waterGap);
        check.test("10 permille: when they are not 300 .. 700", RefusalsTest::permille);
        check.test("11 degrees: there is no such month", RefusalsTest::degreesMonth);
        check.test("11 degrees: when they are not 0 .. 100", RefusalsTest::degreesValue);
        check.test("12 prepay: there is no such tenant", RefusalsTest::prepayTenant);
        check.test("12 prepay: when cents is not 0 .. 20000", RefusalsTest::prepayCents);
        check.test("12 prepay: all of it would be more than 1000000", RefusalsTest::prepayAll);
    }

    private static HeatShares twoFlats() {
        HeatShares x = new HeatShares();
        x.flat(1, 1, 1);
        x.flat(1, 1, 1);
        return x;
    }

    private static void flat() {
        check.takesOnly(1, 50, ARGUMENT, "area", v -> new HeatShares().flat(v, 50, 2));
        check.takesOnly(0, 50, ARGUMENT, "water area", v -> new HeatShares().flat(50, v, 1));
        check.takesOnly(1, 2, ARGUMENT, "factor", v -> new HeatShares().flat(1, 0, v));
        HeatShares x = new HeatShares();
        check.refuses(ARGUMENT, "all three", () -> x.flat(0, -1, 0));
        check.same("what was refused has no number", x.flat(1, 0, 1), 0);
    }

    private static void sixFlats() {
        HeatShares x = new HeatShares();
        for (int f = 0; f < 6; f++) {
            check.takes("flat " + f, () -> x.flat(50, 50, 2));
        }
        check.refuses(FULL, "a seventh", () -> x.flat(50, 50, 2));
        check.refuses(FULL, "a seventh again", () -> x.flat(1, 0, 1));
        Houses.closeWithOneUnit(x, 1);
        check.refuses(FULL, "a seventh in the next year", () -> x.flat(1, 0, 1));
    }

    private static void readingWhere() {
        HeatShares x = new HeatShares();
        check.refuses(INDEX, "no flat at all", () -> x.reading(0, 0, 0));
        HeatShares y = twoFlats();
        check.takesOnly(0, 1, INDEX, "reading of flat", f -> y.reading(f, 0, 0));
        check.takesOnly(0, 12, INDEX, "reading at", t -> y.reading(1, t, 0));
        check.takesOnly(0, 12, INDEX, "no reading at", t -> y.reading(1, t, -1));
    }

    private static void readingValue() {
        HeatShares x = twoFlats();
        for (int t = 0; t <= 12; t++) {
            int time = t;
            check.takesOnly(-1, 99, ARGUMENT, "reading at " + t, v -> x.reading(1, time, v));
        }
    }

    private static void enterFlat() {
        HeatShares x = new HeatShares();
        check.refuses(INDEX, "no flat at all", () -> x.enter(0, 0));
        HeatShares y = twoFlats();
        check.takesOnly(0, 1, INDEX, "enter flat", f -> y.enter(f, 5));
    }

    private static void enterTime() {
        HeatShares x = twoFlats();
        check.takesOnly(0, 11, INDEX, "enter at", t -> x.enter(1, t));
    }

    private static void enterChange() {
        HeatShares x = twoFlats();
        for (int t = 0; t < 12; t += 2) {
            int time = t;
            x.leave(0, t);
            x.enter(0, t + 1);
            check.refuses(STATE, "where one left", () -> x.enter(0, time));
            check.refuses(STATE, "where one came", () -> x.enter(0, time + 1));
        }
        check.same("the other flat is free", x.enter(1, 0), 6);
        Houses.closeWithOneUnit(x, 1);
        check.same("the next year is free", x.enter(0, 11), 7);
    }

    private static void enterFull() {
        HeatShares x = twoFlats();
        for (int n = 0; n < 20; n++) {
            check.same("tenant", x.enter(n / 12, n % 12), n);
        }
        for (int t = 8; t < 12; t++) {
            int time = t;
            check.refuses(FULL, "tenant 20 at " + t, () -> x.enter(1, time));
        }
        check.takes("leave is no tenant", () -> x.leave(1, 8));
    }

    private static void leaveFlat() {
        HeatShares x = new HeatShares();
        check.refuses(INDEX, "no flat at all", () -> x.leave(0, 0));
        HeatShares y = twoFlats();
        check.takesOnly(0, 1, INDEX, "leave flat", f -> y.leave(f, 5));
    }

    private static void leaveTime() {
        HeatShares x = twoFlats();
        check.takesOnly(0, 11, INDEX, "leave at", t -> x.leave(1, t));
    }

    private static void leaveChange() {
        HeatShares x = twoFlats();
        for (int t = 0; t < 12; t += 2) {
            int time = t;
            x.leave(0, t);
            x.enter(0, t + 1);
            check.refuses(STATE, "where one left", () -> x.leave(0, time));
            check.refuses(STATE, "where one came", () -> x.leave(0, time + 1));
        }
        check.takes("the other flat is free", () -> x.leave(1, 0));
        Houses.closeWithOneUnit(x, 1);
        check.takes("the next year is free", () -> x.leave(0, 0));
    }

    private static void leaveAnEmptyFlat() {
        HeatShares x = Houses.fuelled(2400);
        x.flat(10, 0, 1);
        Houses.read(x, 0, 0, 10);
        check.takes("it was empty before", () -> x.leave(0, 6));
        check.refuses(STATE, "a change all the same", () -> x.leave(0, 6));
        check.same("a change all the same: degrees are needed", x.bill(), NONE);
        check.takes("and again", () -> x.leave(0, 7));
    }

    private static void deliverUnits() {
        HeatShares x = new HeatShares();
        check.takesOnly(1, 1000, ARGUMENT, "units", u -> x.deliver(u, 0));
        check.takes("1001 units lie there", () -> x.endStock(1001));
        check.refuses(ARGUMENT, "not 1002", () -> x.endStock(1002));
    }

    private static void deliverCents() {
        HeatShares x = new HeatShares();
        x.flat(1, 0, 1);
        check.takesOnly(0, 20000, ARGUMENT, "cents", c -> x.deliver(1, c));
        x.endStock(0);
        x.bill();
        check.same("cents of both", x.part(1), 20000);
    }

    private static void deliverFull() {
        HeatShares x = new HeatShares();
        for (int n = 0; n < 12; n++) {
            check.takes("layer " + n, () -> x.deliver(1000, 20000));
        }
        check.refuses(FULL, "a thirteenth", () -> x.deliver(1, 0));
        check.refuses(FULL, "a thirteenth again", () -> x.deliver(1000, 20000));
        check.takesOnly(-1, 12000, ARGUMENT, "end stock", x::endStock);
    }

    private static void endStock() {
        HeatShares x = new HeatShares();
        x.deliver(10, 0);
        x.deliver(7, 0);
        check.takesOnly(-1, 17, ARGUMENT, "end stock", x::endStock);
        x.deliver(1, 0);
        check.takesOnly(-1, 18, ARGUMENT, "end stock with one unit more", x::endStock);
    }

    private static void endStockOfNoFuel() {
        HeatShares x = new HeatShares();
        check.takesOnly(-1, 0, ARGUMENT, "end stock", x::endStock);
    }

    private static void endStockOfBothYears() {
        HeatShares x = new HeatShares();
        x.flat(1, 1, 1);
        x.deliver(10, 0);
        x.endStock(9);
        x.bill();
        x.closeYear();
        check.takesOnly(-1, 9, ARGUMENT, "end stock of the last year's layers", x::endStock);
        x.deliver(1, 0);
        check.takesOnly(-1, 10, ARGUMENT, "end stock of both years' layers", x::endStock);
        x.endStock(0);
        x.bill();
        x.closeYear();
        check.takesOnly(-1, 0, ARGUMENT, "end stock when all was burned", x::endStock);
    }

    private static void sideCosts() {
        HeatShares x = Houses.fuelled(5);
        x.flat(1, 1, 1);
        check.takesOnly(0, 20000, ARGUMENT, "side costs", x::sideCosts);
        x.bill();
        check.same("the last that was taken", x.part(1), 20005);
    }

    private static void waterLitres() {
        HeatShares x = new HeatShares();
        check.takesOnly(-1, 10000000, ARGUMENT, "litres with gap 0", v -> x.water(v, 0));
        check.takesOnly(-1, 10000000, ARGUMENT, "litres with gap 100", v -> x.water(v, 100));
    }

    private static void waterGap() {
        HeatShares x = new HeatShares();
        check.takesOnly(0, 100, ARGUMENT, "gap of 0 litres", g -> x.water(0, g));
        check.takesOnly(0, 100, ARGUMENT, "gap of most litres", g -> x.water(10000000, g));
        check.takesOnly(0, 100, ARGUMENT, "gap where litres are not measured",
                g -> x.water(-1, g));
    }

    private static void permille() {
        HeatShares x = Houses.fuelled(1000);
        x.flat(1, 1, 1);
        check.takesOnly(300, 700, ARGUMENT, "permille", x::permille);
        x.bill();
        check.same("the last that was taken", x.part(3), 700);
    }

    private static void degreesMonth() {
        HeatShares x = new HeatShares();
        check.takesOnly(0, 11, INDEX, "month", m -> x.degrees(m, 0));
        check.takesOnly(0, 11, INDEX, "month", m -> x.degrees(m, 100));
    }

    private static void degreesValue() {
        HeatShares x = new HeatShares();
        check.takesOnly(0, 100, ARGUMENT, "degrees of month 0", d -> x.degrees(0, d));
        check.takesOnly(0, 100, ARGUMENT, "degrees of month 11", d -> x.degrees(11, d));
    }

    private static void prepayTenant() {
        HeatShares x = twoFlats();
        check.refuses(INDEX, "no tenant at all", () -> x.prepay(0, 1));
        x.enter(0, 0);
        x.enter(0, 1);
        check.takesOnly(0, 1, INDEX, "prepay of tenant", t -> x.prepay(t, 7));
        check.same("the landlord pays nothing before", x.paid(0) + x.paid(1), 14);
    }

    private static void prepayCents() {
        HeatShares x = twoFlats();
        x.enter(0, 0);
        check.takesOnly(0, 20000, ARGUMENT, "prepay", c -> x.prepay(0, c));
        check.same("what was taken", x.paid(0), 20000);
    }

    private static void prepayAll() {
        HeatShares x = twoFlats();
        x.enter(0, 0);
        x.enter(1, 0);
        for (int n = 0; n < 49; n++) {
            x.prepay(0, 20000);
        }
        x.prepay(0, 1);
        check.refuses(ARGUMENT, "980001 + 20000", () -> x.prepay(0, 20000));
        check.same("as before", x.paid(0), 980001);
        check.takes("980001 + 19999", () -> x.prepay(0, 19999));
        check.same("all of it", x.paid(0), 1000000);
        check.refuses(ARGUMENT, "1000000 + 1", () -> x.prepay(0, 1));
        check.refuses(ARGUMENT, "1000000 + most", () -> x.prepay(0, MOST));
        check.takes("1000000 + 0", () -> x.prepay(0, 0));
        check.takes("the other tenant's", () -> x.prepay(1, 20000));
        Houses.closeWithOneUnit(x, 1);
        check.takes("what was paid is 0 then", () -> x.prepay(0, 20000));
        check.same("all of it in the next year", x.paid(0), 20000);
    }

    private static void refusalsOfAnswers() {
        check.test("14 amount: when there is no bill", RefusalsTest::amountOfNoBill);
        check.test("14 amount: when there is no such tenant", RefusalsTest::amountTenant);
        check.test("14 amount: or what", RefusalsTest::amountWhat);
        check.test("15 paid: there is no such tenant", RefusalsTest::paid);
        check.test("16 part: when there is no bill", RefusalsTest::partOfNoBill);
        check.test("16 part: when there is no such what", RefusalsTest::partWhat);
        check.test("17 replaced: there is no such flat", RefusalsTest::replaced);
        check.test("18 send: when there is no bill", RefusalsTest::sendOfNoBill);
        check.test("19 sent: when there is no such tenant", RefusalsTest::sent);
        check.test("20 closeYear: when there is no bill", RefusalsTest::closeYearOfNoBill);
        check.test("21 known: there is no such flat", RefusalsTest::known);
        check.test("bill: it throws nothing, in no state", RefusalsTest::billThrowsNothing);
    }

    /** Never made, could not be made, ended by a fact, and of a year that is closed. */
    private static void refusesWithoutBill(Consumer<HeatShares> call) {
        HeatShares x = new HeatShares();
        check.refuses(STATE, "of a new object", () -> call.accept(x));
        x.bill();
        check.refuses(STATE, "of a bill that can't be made", () -> call.accept(x));
        HeatShares y = Houses.busy();
        check.refuses(STATE, "before it is made", () -> call.accept(y));
        y.bill();
        y.degrees(0, 18);
        check.refuses(STATE, "after a fact", () -> call.accept(y));
        check.same("99 degrees", y.bill(), NONE);
        check.refuses(STATE, "of a bill that can't be made any more", () -> call.accept(y));
        y.degrees(0, 19);
        check.refuses(STATE, "when it could be made again", () -> call.accept(y));
        y.bill();
        y.closeYear();
        check.refuses(STATE, "after the year", () -> call.accept(y));
        HeatShares z = Houses.busyBilled();
        check.takes("of a bill", () -> call.accept(z));
    }

    private static void amountOfNoBill() {
        for (int what = 0; what < 4; what++) {
            int asked = what;
            refusesWithoutBill(x -> x.amount(NONE, asked));
        }
    }

    private static void amountTenant() {
        HeatShares x = Houses.busyBilled();
        for (int what = 0; what < 4; what++) {
            int asked = what;
            check.takesOnly(-1, 3, INDEX, "amount of tenant", t -> x.amount(t, asked));
        }
        HeatShares empty = Houses.fuelled(10);
        empty.flat(1, 1, 1);
        empty.bill();
        check.takesOnly(-1, -1, INDEX, "amount of the landlord alone", t -> empty.amount(t, 3));
        HeatShares full = Houses.full();
        full.bill();
        check.takesOnly(-1, 19, INDEX, "amount of twenty tenants", t -> full.amount(t, 3));
    }

    private static void amountWhat() {
        HeatShares x = Houses.busyBilled();
        check.takesOnly(0, 3, INDEX, "amount of tenant 0, what", w -> x.amount(0, w));
        check.takesOnly(0, 3, INDEX, "amount of the landlord, what", w -> x.amount(NONE, w));
    }

    private static void paid() {
        HeatShares x = new HeatShares();
        check.refuses(INDEX, "no tenant at all", () -> x.paid(0));
        check.refuses(INDEX, "the landlord is no tenant", () -> x.paid(NONE));
        HeatShares y = Houses.busy();
        check.takesOnly(0, 3, INDEX, "paid", y::paid);
        check.takesOnly(0, 19, INDEX, "paid of twenty tenants", Houses.full()::paid);
    }

    private static void partOfNoBill() {
        for (int what = 0; what < 5; what++) {
            int asked = what;
            refusesWithoutBill(x -> x.part(asked));
        }
    }

    private static void partWhat() {
        HeatShares x = Houses.busyBilled();
        check.takesOnly(0, 4, INDEX, "part", x::part);
    }

    private static void replaced() {
        HeatShares x = new HeatShares();
        check.refuses(INDEX, "no flat at all", () -> x.replaced(0));
        check.takesOnly(0, 2, INDEX, "replaced", Houses.busy()::replaced);
        check.takesOnly(0, 5, INDEX, "replaced of six", Houses.full()::replaced);
    }

    private static void sendOfNoBill() {
        refusesWithoutBill(HeatShares::send);
    }

    private static void sent() {
        HeatShares x = new HeatShares();
        check.takesOnly(-1, -1, INDEX, "sent to the landlord alone", x::sent);
        check.takesOnly(-1, 3, INDEX, "sent", Houses.busy()::sent);
        check.takesOnly(-1, 3, INDEX, "sent of a bill that was sent", Houses.busySent()::sent);
        check.takesOnly(-1, 19, INDEX, "sent to twenty tenants", Houses.full()::sent);
    }

    private static void closeYearOfNoBill() {
        refusesWithoutBill(HeatShares::closeYear);
    }

    private static void known() {
        HeatShares x = new HeatShares();
        check.refuses(INDEX, "no flat at all", () -> x.known(0));
        check.takesOnly(0, 2, INDEX, "known", Houses.busy()::known);
        check.takesOnly(0, 2, INDEX, "known in the next year", Houses.busyNextYear()::known);
        check.takesOnly(0, 5, INDEX, "known of six", Houses.full()::known);
    }

    private static void billThrowsNothing() {
        check.takes("of a new object", () -> new HeatShares().bill());
        check.takes("of a full house", () -> Houses.full().bill());
        HeatShares x = Houses.busyBilled();
        x.closeYear();
        check.takes("of a new year", x::bill);
    }

    private static void namedFirst() {
        check.test("named first: flat, IllegalArgumentException before Unsupported..",
                RefusalsTest::firstOfFlat);
        check.test("named first: reading, IndexOutOfBounds.. before IllegalArgument..",
                RefusalsTest::firstOfReading);
        check.test("named first: enter, IndexOutOfBounds.., IllegalState.., Unsupported..",
                RefusalsTest::firstOfEnter);
        check.test("named first: leave, IndexOutOfBounds.. before IllegalState..",
                RefusalsTest::firstOfLeave);
        check.test("named first: deliver, IllegalArgument.. before Unsupported..",
                RefusalsTest::firstOfDeliver);
        check.test("named first: degrees, IndexOutOfBounds.. before IllegalArgument..",
                RefusalsTest::firstOfDegrees);
        check.test("named first: prepay, IndexOutOfBounds.. before IllegalArgument..",
                RefusalsTest::firstOfPrepay);
        check.test("named first: amount, IllegalState.. before IndexOutOfBounds..",
                RefusalsTest::firstOfAmount);
        check.test("named first: part, IllegalState.. before IndexOutOfBounds..",
                RefusalsTest::firstOfPart);
    }

    private static void firstOfFlat() {
        HeatShares x = Houses.full();
        check.refuses(FULL, "six flats", () -> x.flat(1, 0, 1));
        for (int far : new int[] {LEAST, 0, 51, MOST}) {
            check.refuses(ARGUMENT, "and area " + far, () -> x.flat(far, 0, 1));
        }
        for (int far : new int[] {LEAST, -1, 51, MOST}) {
            check.refuses(ARGUMENT, "and water area " + far, () -> x.flat(1, far, 1));
        }
        for (int far : new int[] {LEAST, 0, 3, MOST}) {
            check.refuses(ARGUMENT, "and factor " + far, () -> x.flat(1, 0, far));
        }
    }

    private static void firstOfReading() {
        HeatShares x = twoFlats();
        for (int value : new int[] {LEAST, -2, 100, MOST}) {
            check.refuses(ARGUMENT, "value " + value, () -> x.reading(0, 0, value));
            for (int flat : new int[] {LEAST, -1, 2, MOST}) {
                check.refuses(INDEX, "and flat " + flat, () -> x.reading(flat, 0, value));
            }
            for (int time : new int[] {LEAST, -1, 13, MOST}) {
                check.refuses(INDEX, "and time " + time, () -> x.reading(0, time, value));
            }
        }
    }

    /** Twenty tenants; flat 1 has changes at times 0 .. 7, those from 8 on are free. */
    private static HeatShares twentyTenants() {
        HeatShares x = twoFlats();
        for (int n = 0; n < 20; n++) {
            x.enter(n / 12, n % 12);
        }
        return x;
    }

    private static void firstOfEnter() {
        HeatShares x = twentyTenants();
        check.refuses(FULL, "twenty tenants", () -> x.enter(1, 8));
        check.refuses(STATE, "and a change", () -> x.enter(1, 7));
        x.leave(1, 8);
        check.refuses(STATE, "and a flat left", () -> x.enter(1, 8));
        for (int time : new int[] {LEAST, -1, 12, 13, MOST}) {
            check.refuses(INDEX, "and time " + time, () -> x.enter(1, time));
        }
        for (int flat : new int[] {LEAST, -1, 2, MOST}) {
            check.refuses(INDEX, "and flat " + flat, () -> x.enter(flat, 8));
            check.refuses(INDEX, "and a time of changes", () -> x.enter(flat, 0));
            check.refuses(INDEX, "and time 12", () -> x.enter(flat, 12));
        }
    }

    private static void firstOfLeave() {
        HeatShares x = twentyTenants();
        check.refuses(STATE, "a change", () -> x.leave(0, 11));
        for (int flat : new int[] {LEAST, -1, 2, MOST}) {
            check.refuses(INDEX, "flat " + flat, () -> x.leave(flat, 11));
        }
        for (int time : new int[] {LEAST, -1, 12, 13, MOST}) {
            check.refuses(INDEX, "time " + time, () -> x.leave(0, time));
        }
    }

    private static void firstOfDeliver() {
        HeatShares x = Houses.full();
        check.refuses(FULL, "twelve layers", () -> x.deliver(1, 0));
        for (int units : new int[] {LEAST, 0, 1001, MOST}) {
            check.refuses(ARGUMENT, "and units " + units, () -> x.deliver(units, 0));
        }
        for (int cents : new int[] {LEAST, -1, 20001, MOST}) {
            check.refuses(ARGUMENT, "and cents " + cents, () -> x.deliver(1, cents));
        }
    }

    private static void firstOfDegrees() {
        HeatShares x = new HeatShares();
        for (int d : new int[] {LEAST, -1, 101, MOST}) {
            check.refuses(ARGUMENT, "degrees " + d, () -> x.degrees(11, d));
            for (int month : new int[] {LEAST, -1, 12, MOST}) {
                check.refuses(INDEX, "and month " + month, () -> x.degrees(month, d));
            }
        }
    }

    private static void firstOfPrepay() {
        HeatShares x = Houses.busy();
        for (int cents : new int[] {LEAST, -1, 20001, MOST}) {
            check.refuses(ARGUMENT, "cents " + cents, () -> x.prepay(3, cents));
            for (int tenant : new int[] {LEAST, -1, 4, MOST}) {
                check.refuses(INDEX, "and tenant " + tenant, () -> x.prepay(tenant, cents));
            }
        }
    }

    private static void firstOfAmount() {
        HeatShares x = Houses.busy();
        for (int tenant : new int[] {LEAST, -2, 4, MOST}) {
            check.refuses(STATE, "no bill and tenant " + tenant, () -> x.amount(tenant, 0));
            check.refuses(STATE, "and no such what", () -> x.amount(tenant, 4));
        }
        for (int what : new int[] {LEAST, -1, 4, MOST}) {
            check.refuses(STATE, "no bill and what " + what, () -> x.amount(0, what));
        }
        x.bill();
        check.refuses(INDEX, "a bill", () -> x.amount(4, 0));
        check.refuses(INDEX, "a bill", () -> x.amount(0, 4));
        check.refuses(INDEX, "a bill, neither tenant nor what", () -> x.amount(4, 4));
    }

    private static void firstOfPart() {
        HeatShares x = Houses.busy();
        for (int what : new int[] {LEAST, -1, 5, MOST}) {
            check.refuses(STATE, "no bill and what " + what, () -> x.part(what));
        }
        x.bill();
        check.refuses(INDEX, "a bill", () -> x.part(5));
    }

    private static void changesNothing() {
        List<Refusal> inUse = refusalsInUse();
        changesNothingIn("a new object", HeatShares::new, refusalsOfNewObject());
        changesNothingIn("a house without a bill", Houses::busy, inUse);
        changesNothingIn("a house without a bill", Houses::busy, refusalsWithoutBill());
        changesNothingIn("a house with a bill", Houses::busyBilled, inUse);
        changesNothingIn("a house with a bill", Houses::busyBilled, refusalsWithBill());
        changesNothingIn("a house with a bill sent", Houses::busySent, inUse);
        changesNothingIn("a house in its second year", Houses::busyNextYear, inUse);
        changesNothingIn("a full house", RefusalsTest::fullBilled, refusalsOfFullHouse());
        changesNothingIn("twenty tenants", RefusalsTest::twentyBilled, refusalsOfTwenty());
        changesNothingIn("a house after its year", RefusalsTest::busyClosed,
                refusalsWithoutBill());
        changesNothingIn("a tenant who paid all", RefusalsTest::allPaid, refusalsOfAllPaid());
    }

    private static HeatShares fullBilled() {
        HeatShares x = Houses.full();
        x.bill();
        return x;
    }

    private static HeatShares twentyBilled() {
        HeatShares x = twentyTenants();
        Houses.refuel(x, 20000);
        x.bill();
        return x;
    }

    private static HeatShares busyClosed() {
        HeatShares x = Houses.busySent();
        x.closeYear();
        return x;
    }

    private static HeatShares allPaid() {
        HeatShares x = Houses.busyBilled();
        for (int n = 0; n < 50; n++) {
            x.prepay(1, 20000);
        }
        return x;
    }

    private static void changesNothingIn(String where, Supplier<HeatShares> house,
            List<Refusal> refusals) {
        String due = Probe.of(house.get());
        for (Refusal refusal : refusals) {
            String text = refusal.text();
            check.test("changes nothing: " + text + " of " + where, () -> {
                HeatShares x = house.get();
                check.refuses(refusal.kind(), text, () -> refusal.call().accept(x));
                check.sameWords("what it holds after " + text, Probe.of(x), due);
            });
        }
    }

    private static void add(List<Refusal> list, Class<? extends RuntimeException> kind,
            String text, Consumer<HeatShares> call) {
        list.add(new Refusal(kind, text, call));
    }

    private static List<Refusal> refusalsOfNewObject() {
        List<Refusal> list = new ArrayList<>();
        add(list, ARGUMENT, "flat(51, 1, 1)", x -> x.flat(51, 1, 1));
        add(list, INDEX, "reading(0, 0, 0)", x -> x.reading(0, 0, 0));
        add(list, INDEX, "enter(0, 0)", x -> x.enter(0, 0));
        add(list, INDEX, "leave(0, 0)", x -> x.leave(0, 0));
        add(list, ARGUMENT, "deliver(0, 0)", x -> x.deliver(0, 0));
        add(list, ARGUMENT, "endStock(1)", x -> x.endStock(1));
        add(list, INDEX, "prepay(0, 0)", x -> x.prepay(0, 0));
        add(list, INDEX, "paid(0)", x -> x.paid(0));
        add(list, INDEX, "sent(0)", x -> x.sent(0));
        add(list, INDEX, "replaced(0)", x -> x.replaced(0));
        add(list, INDEX, "known(0)", x -> x.known(0));
        list.addAll(refusalsWithoutBill());
        return list;
    }

    /** Refused in each state of the busy house: it has flats 0 .. 2 and tenants 0 .. 4 at most. */
    private static List<Refusal> refusalsInUse() {
        List<Refusal> list = new ArrayList<>();
        add(list, ARGUMENT, "flat(0, 1, 1)", x -> x.flat(0, 1, 1));
        add(list, ARGUMENT, "flat(1, 51, 1)", x -> x.flat(1, 51, 1));
        add(list, ARGUMENT, "flat(1, 1, 3)", x -> x.flat(1, 1, 3));
        add(list, INDEX, "reading(3, 12, 9)", x -> x.reading(3, 12, 9));
        add(list, INDEX, "reading(0, 13, 9)", x -> x.reading(0, 13, 9));
        add(list, INDEX, "reading(0, -1, -1)", x -> x.reading(0, -1, -1));
        add(list, ARGUMENT, "reading(0, 12, -2)", x -> x.reading(0, 12, -2));
        add(list, ARGUMENT, "reading(0, 12, 100)", x -> x.reading(0, 12, 100));
        add(list, INDEX, "enter(3, 1)", x -> x.enter(3, 1));
        add(list, INDEX, "enter(0, 12)", x -> x.enter(0, 12));
        add(list, INDEX, "leave(-1, 1)", x -> x.leave(-1, 1));
        add(list, INDEX, "leave(0, 12)", x -> x.leave(0, 12));
        add(list, ARGUMENT, "deliver(0, 1)", x -> x.deliver(0, 1));
        add(list, ARGUMENT, "deliver(1, 20001)", x -> x.deliver(1, 20001));
        add(list, ARGUMENT, "endStock(-2)", x -> x.endStock(-2));
        add(list, ARGUMENT, "endStock(12001)", x -> x.endStock(12001));
        add(list, ARGUMENT, "sideCosts(-1)", x -> x.sideCosts(-1));
        add(list, ARGUMENT, "sideCosts(20001)", x -> x.sideCosts(20001));
        add(list, ARGUMENT, "water(-2, 20)", x -> x.water(-2, 20));
        add(list, ARGUMENT, "water(10000001, 20)", x -> x.water(10000001, 20));
        add(list, ARGUMENT, "water(5000, 101)", x -> x.water(5000, 101));
        add(list, ARGUMENT, "water(-1, -1)", x -> x.water(-1, -1));
        add(list, ARGUMENT, "permille(299)", x -> x.permille(299));
        add(list, ARGUMENT, "permille(701)", x -> x.permille(701));
        add(list, INDEX, "degrees(12, 1)", x -> x.degrees(12, 1));
        add(list, ARGUMENT, "degrees(0, -1)", x -> x.degrees(0, -1));
        add(list, ARGUMENT, "degrees(11, 101)", x -> x.degrees(11, 101));
        add(list, INDEX, "prepay(5, 1)", x -> x.prepay(5, 1));
        add(list, INDEX, "prepay(-1, 1)", x -> x.prepay(-1, 1));
        add(list, ARGUMENT, "prepay(0, -1)", x -> x.prepay(0, -1));
        add(list, ARGUMENT, "prepay(0, 20001)", x -> x.prepay(0, 20001));
        add(list, INDEX, "paid(-1)", x -> x.paid(-1));
        add(list, INDEX, "paid(5)", x -> x.paid(5));
        add(list, INDEX, "replaced(3)", x -> x.replaced(3));
        add(list, INDEX, "sent(5)", x -> x.sent(5));
        add(list, INDEX, "known(3)", x -> x.known(3));
        return list;
    }

    private static List<Refusal> refusalsWithoutBill() {
        List<Refusal> list = new ArrayList<>();
        add(list, STATE, "amount(-1, 3)", x -> x.amount(NONE, 3));
        add(list, STATE, "amount(-2, 4)", x -> x.amount(-2, 4));
        add(list, STATE, "part(0)", x -> x.part(0));
        add(list, STATE, "part(5)", x -> x.part(5));
        add(list, STATE, "send()", HeatShares::send);
        add(list, STATE, "closeYear()", HeatShares::closeYear);
        return list;
    }

    /** Of the busy house's bill, and where it has changes. */
    private static List<Refusal> refusalsWithBill() {
        List<Refusal> list = new ArrayList<>();
        add(list, INDEX, "amount(4, 0)", x -> x.amount(4, 0));
        add(list, INDEX, "amount(0, 4)", x -> x.amount(0, 4));
        add(list, INDEX, "part(5)", x -> x.part(5));
        add(list, STATE, "enter(0, 4)", x -> x.enter(0, 4));
        add(list, STATE, "enter(1, 9)", x -> x.enter(1, 9));
        add(list, STATE, "leave(0, 0)", x -> x.leave(0, 0));
        add(list, STATE, "leave(1, 9)", x -> x.leave(1, 9));
        add(list, ARGUMENT, "endStock(301)", x -> x.endStock(301));
        return list;
    }

    private static List<Refusal> refusalsOfFullHouse() {
        List<Refusal> list = new ArrayList<>();
        add(list, FULL, "flat(1, 1, 1)", x -> x.flat(1, 1, 1));
        add(list, ARGUMENT, "flat(0, 1, 1)", x -> x.flat(0, 1, 1));
        add(list, FULL, "deliver(1, 1)", x -> x.deliver(1, 1));
        add(list, ARGUMENT, "deliver(1, -1)", x -> x.deliver(1, -1));
        add(list, STATE, "enter(5, 11)", x -> x.enter(5, 11));
        add(list, INDEX, "enter(6, 11)", x -> x.enter(6, 11));
        add(list, STATE, "leave(0, 0)", x -> x.leave(0, 0));
        add(list, ARGUMENT, "endStock(1201)", x -> x.endStock(1201));
        add(list, INDEX, "prepay(20, 1)", x -> x.prepay(20, 1));
        return list;
    }

    private static List<Refusal> refusalsOfTwenty() {
        List<Refusal> list = new ArrayList<>();
        add(list, FULL, "enter(1, 8)", x -> x.enter(1, 8));
        add(list, FULL, "enter(1, 11)", x -> x.enter(1, 11));
        add(list, STATE, "enter(1, 7)", x -> x.enter(1, 7));
        add(list, INDEX, "enter(1, 12)", x -> x.enter(1, 12));
        return list;
    }

    private static List<Refusal> refusalsOfAllPaid() {
        List<Refusal> list = new ArrayList<>();
        add(list, ARGUMENT, "prepay(1, 1)", x -> x.prepay(1, 1));
        add(list, ARGUMENT, "prepay(1, 20000)", x -> x.prepay(1, 20000));
        add(list, ARGUMENT, "prepay(1, -1)", x -> x.prepay(1, -1));
        return list;
    }
}
