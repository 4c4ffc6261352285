/** Promises 18 to 21: bills sent, years closed, and what the next year has of the last one. */
public final class YearTest {
    private static final Class<IllegalStateException> STATE = IllegalStateException.class;
    private static final Class<IndexOutOfBoundsException> INDEX = IndexOutOfBoundsException.class;
    private static final int NONE = HeatShares.NONE;
    private static final Check check = new Check();

    public static void main(String[] args) {
        check.test("18 and 19: send anew", YearTest::promise18And19SendAnew);
        sendEdges();
        check.test("19 sent: of whom", YearTest::promise19SentOfWhom);
        check.test("20 closeYear: what stays and goes", YearTest::promise20WhatStaysAndWhatGoes);
        check.test("20 closeYear: the bill is sent", YearTest::promise20TheBillIsSent);
        check.test("20 closeYear: layers", YearTest::promise20Layers);
        check.test("20 closeYear: layers are counted", YearTest::promise20LayersAreCounted);
        check.test("20 closeYear: who has the flat", YearTest::promise20WhoHasTheFlat);
        check.test("20 closeYear: readings go on", YearTest::promise20ReadingsGoOn);
        closeYearEdges();
        check.test("21 known", YearTest::promise21Known);
        check.test("21 known: of fractions", YearTest::promise21KnownOfFractions);
        check.test("last year replaces meters", YearTest::lastYearReplacesMeters);
        check.test("last year replaces up to 200", YearTest::lastYearReplacesUpTo200);
        check.end();
    }

    private static HeatShares smallHouse() {
        HeatShares x = new HeatShares();
        x.flat(20, 10, 1);
        x.flat(30, 0, 2);
        x.enter(0, 0);
        x.deliver(100, 10000);
        x.endStock(0);
        return x;
    }

    private static void promise18And19SendAnew() {
        HeatShares x = smallHouse();
        check.refuses(STATE, "send of no bill", x::send);
        x.prepay(0, 300);
        x.bill();
        check.same("sent before send", x.sent(0), 0);
        check.same("send to two", x.send(), 2);
        check.same("not less what was paid", x.sent(0), 5080);
        check.same("the landlord got", x.sent(NONE), 4920);
        check.same("the bill stays", x.amount(0, 3), 5080);
        check.same("send again", x.send(), 0);
        check.same("nothing by the second", x.sent(0), 0);
        check.same("nothing to the landlord", x.sent(NONE), 0);
        x.sideCosts(1000);
        check.same("a new fact leaves what was sent", x.sent(0), 0);
        x.bill();
        check.same("send more", x.send(), 2);
        check.same("tenant 0 got more", x.sent(0), 508);
        check.same("the landlord got more", x.sent(NONE), 492);
        check.same("a tenant comes", x.enter(1, 0), 1);
        check.same("what was sent stays", x.sent(0), 508);
        check.same("the new one got nothing", x.sent(1), 0);
        check.refuses(STATE, "send of the old bill", x::send);
        x.bill();
        check.same("send to other two", x.send(), 2);
        check.same("tenant 0 got nothing", x.sent(0), 0);
        check.same("tenant 1 got all of flat 1", x.sent(1), 5412);
        check.same("the landlord got it back", x.sent(NONE), -5412);
    }

    private static void sendEdges() {
        check.test("18 send: how many of them got something else than 0: none",
                YearTest::sendToNobody);
        check.test("18 send: how many of them: the landlord alone", YearTest::sendToLandlord);
        check.test("18 send: how many of them: all 21", YearTest::sendToAll);
        check.test("18 send: less than 0 is something else than 0", YearTest::sendBack);
        check.test("18 send: less all that was sent to them in this year",
                YearTest::sendThreeTimes);
        check.test("18 send: not less what they paid before", YearTest::sendOfWhatWasPaid);
        check.test("18 send: it stays", YearTest::sendLeavesTheBill);
        check.test("19 sent: 0 by a second one of the same bill", YearTest::sentBySecond);
        check.test("19 sent: 0 if there was none", YearTest::sentByNone);
        check.test("19 sent: the latest send() alone", YearTest::sentByLatest);
    }

    private static void sendToNobody() {
        HeatShares x = Houses.fuelled(0);
        x.flat(1, 1, 1);
        x.enter(0, 6);
        x.bill();
        check.same("a bill of 0 cents", x.send(), 0);
        check.same("the tenant got", x.sent(0), 0);
        check.same("the landlord got", x.sent(NONE), 0);
    }

    private static void sendToLandlord() {
        HeatShares x = Houses.fuelled(1);
        x.flat(1, 1, 1);
        x.bill();
        check.same("one cent", x.send(), 1);
        check.same("the landlord got", x.sent(NONE), 1);
    }

    private static void sendToAll() {
        HeatShares x = Houses.full();
        x.bill();
        check.same("twenty tenants and the landlord", x.send(), 21);
        check.same("the first tenant got", x.sent(0), 1000);
        check.same("the last tenant got", x.sent(19), 1000);
        check.same("the landlord got", x.sent(NONE), 52000);
    }

    /** A month is two cents; the last one goes from a tenant to the next. */
    private static void sendBack() {
        HeatShares x = Houses.fuelled(24);
        x.flat(1, 1, 1);
        x.enter(0, 6);
        x.bill();
        check.same("send", x.send(), 2);
        x.enter(0, 11);
        x.bill();
        check.same("send to both tenants", x.send(), 2);
        check.same("the tenant gets back", x.sent(0), -2);
        check.same("the new one pays", x.sent(1), 2);
        check.same("the landlord gets nothing", x.sent(NONE), 0);
    }

    private static void sendThreeTimes() {
        HeatShares x = Houses.fuelled(100);
        x.flat(1, 1, 1);
        int[] costs = {900, 400, 0, 900};
        int before = 0;
        for (int costsNow : costs) {
            x.sideCosts(costsNow);
            x.bill();
            check.same("send", x.send(), 1);
            check.same("the difference", x.sent(NONE), 100 + costsNow - before);
            before = 100 + costsNow;
        }
        x.sideCosts(5);
        x.bill();
        x.sideCosts(900);
        x.bill();
        check.same("a bill that was not sent is no matter", x.send(), 0);
    }

    private static void sendOfWhatWasPaid() {
        HeatShares x = smallHouse();
        x.prepay(0, 5080);
        x.bill();
        check.same("send", x.send(), 2);
        check.same("all of it was paid before", x.sent(0), 5080);
        x.prepay(0, 1);
        check.same("send again", x.send(), 0);
    }

    private static void sendLeavesTheBill() {
        HeatShares x = smallHouse();
        x.bill();
        x.send();
        check.same("part", x.part(1), 10000);
        check.same("amount", x.amount(0, 3), 5080);
        check.takes("send", x::send);
        check.takes("closeYear", x::closeYear);
    }

    private static void sentBySecond() {
        HeatShares x = smallHouse();
        x.bill();
        x.send();
        check.same("the second", x.send(), 0);
        check.same("the tenant got", x.sent(0), 0);
        check.same("the landlord got", x.sent(NONE), 0);
        x.bill();
        check.same("of the same bill made again", x.send(), 0);
        check.same("the tenant got", x.sent(0), 0);
        check.same("the bill says", x.amount(0, 3), 5080);
    }

    private static void sentByNone() {
        HeatShares x = smallHouse();
        check.same("no bill", x.sent(0), 0);
        x.bill();
        check.same("a bill that was not sent", x.sent(0), 0);
        check.same("to the landlord", x.sent(NONE), 0);
        x.send();
        check.same("a tenant who came later", x.enter(1, 3), 1);
        check.same("got nothing", x.sent(1), 0);
        x.bill();
        x.closeYear();
        check.same("none of the next year", x.sent(0), 0);
        check.same("nor to the landlord", x.sent(NONE), 0);
    }

    private static void sentByLatest() {
        HeatShares x = Houses.fuelled(100);
        x.flat(1, 1, 1);
        x.bill();
        x.send();
        x.sideCosts(1);
        x.bill();
        x.send();
        check.same("not 101", x.sent(NONE), 1);
    }

    private static void closeYearEdges() {
        check.test("20 closeYear: the end stock's layers: none", YearTest::closeWithoutStock);
        check.test("20 closeYear: the end stock's layers: at a layer's bound",
                YearTest::closeAtLayerBound);
        check.test("20 closeYear: the end stock's layers: all but one unit",
                YearTest::closeWithAlmostAll);
        check.test("20 closeYear: with the cents that they have in it", YearTest::closeWithCents);
        check.test("20 closeYear: known units are 1 or more", YearTest::closeWithLeastUnits);
        check.test("20 closeYear: known units rounded down: just below 1 and 1",
                YearTest::closeWithFractions);
        check.test("20 closeYear: known if it is read or replaced, also by area",
                YearTest::closeByArea);
        check.test("20 closeYear: a reading at 12 is that at 0 now: 0 and 99",
                YearTest::closeWithReadings);
        check.test("20 closeYear: all other readings go", YearTest::closeTakesReadings);
        check.test("20 closeYear: all changes go", YearTest::closeTakesChanges);
        check.test("20 closeYear: what tenants paid is 0", YearTest::closeTakesPaid);
        check.test("20 closeYear: the end stock is not given", YearTest::closeTakesEndStock);
        check.test("20 closeYear: litres are not measured", YearTest::closeTakesLitres);
        check.test("20 closeYear: side costs are 0", YearTest::closeTakesSideCosts);
        check.test("20 closeYear: degrees stay", YearTest::closeLeavesDegrees);
        check.test("20 closeYear: permille stay", YearTest::closeLeavesPermille);
        check.test("20 closeYear: what was sent in the closed year is not set off",
                YearTest::closeForgetsSent);
        check.test("20 closeYear: many years", YearTest::manyYears);
        check.test("21 known: NONE in the first year and of a new flat", YearTest::knownOfNone);
        check.test("21 known: last year's alone", YearTest::knownOfLastYearAlone);
    }

    private static void closeWithoutStock() {
        HeatShares x = Houses.fuelled(100);
        x.flat(1, 1, 1);
        x.bill();
        check.same("no unit lies there", x.closeYear(), 0);
        x.endStock(0);
        check.same("nothing to burn", x.bill(), NONE);
        for (int n = 0; n < 12; n++) {
            check.takes("layer " + n, () -> x.deliver(1, 1));
        }
    }

    private static void closeAtLayerBound() {
        HeatShares x = new HeatShares();
        x.flat(1, 1, 1);
        x.deliver(10, 1000);
        x.deliver(7, 500);
        x.deliver(5, 900);
        x.endStock(12);
        x.bill();
        check.same("two layers", x.closeYear(), 12);
        for (int n = 0; n < 10; n++) {
            check.takes("layer " + (2 + n), () -> x.deliver(1, 1));
        }
        check.refuses(UnsupportedOperationException.class, "layer 12", () -> x.deliver(1, 1));
        x.endStock(15);
        x.bill();
        check.same("the older of the two is burned", x.part(1), 500);
    }

    private static void closeWithAlmostAll() {
        HeatShares x = new HeatShares();
        x.flat(1, 1, 1);
        x.deliver(10, 1000);
        x.deliver(7, 500);
        x.endStock(16);
        x.bill();
        check.same("all but one unit", x.closeYear(), 16);
        x.endStock(0);
        x.bill();
        check.same("900 of the first and all of the second", x.part(1), 1400);
        check.same("burned", x.part(0), 16);
    }

    /** 20 cents of 3 units: 13 of 2 units are kept, then 6 of 1. */
    private static void closeWithCents() {
        HeatShares x = new HeatShares();
        x.flat(1, 1, 1);
        x.deliver(3, 20);
        x.endStock(2);
        x.bill();
        check.same("first year", x.part(1), 7);
        x.closeYear();
        x.endStock(1);
        x.bill();
        check.same("second year", x.part(1), 7);
        x.closeYear();
        x.endStock(0);
        x.bill();
        check.same("third year", x.part(1), 6);
    }

    private static void closeWithLeastUnits() {
        HeatShares x = new HeatShares();
        x.flat(1, 1, 1);
        x.flat(1, 1, 1);
        x.flat(1, 1, 2);
        Houses.read(x, 0, 99, 99);
        Houses.read(x, 1, 98, 99);
        Houses.read(x, 2, 98, 99);
        Houses.closeWithOneUnit(x, 1);
        check.same("0 units", x.known(0), NONE);
        check.same("1 unit", x.known(1), 1);
        check.same("1 unit by factor 2", x.known(2), 2);
    }

    private static void closeWithFractions() {
        HeatShares x = new HeatShares();
        x.flat(50, 1, 1);
        x.flat(49, 1, 1);
        x.flat(50, 1, 1);
        Houses.read(x, 0, 0, 1);
        Houses.closeWithOneUnit(x, 1);
        check.same("49 * 1 / 50", x.known(1), NONE);
        check.same("50 * 1 / 50", x.known(2), 1);
        HeatShares y = new HeatShares();
        y.flat(26, 1, 1);
        y.flat(50, 1, 1);
        y.flat(13, 1, 1);
        Houses.read(y, 0, 0, 1);
        Houses.closeWithOneUnit(y, 1);
        check.same("50 * 1 / 26", y.known(1), 1);
        check.same("13 * 1 / 26", y.known(2), NONE);
    }

    private static void closeByArea() {
        HeatShares x = new HeatShares();
        x.flat(10, 1, 1);
        x.flat(50, 1, 1);
        Houses.read(x, 0, 0, 7);
        Houses.refuel(x, 100);
        check.same("by area", x.bill(), 2);
        x.closeYear();
        check.same("read", x.known(0), 7);
        check.same("replaced", x.known(1), 35);
        Houses.refuel(x, 100);
        check.same("by area, nothing is read", x.bill(), 2);
        x.closeYear();
        check.same("one that can't be replaced", x.known(0), NONE);
        check.same("nor the other", x.known(1), NONE);
    }

    private static void closeWithReadings() {
        for (int value : new int[] {0, 99}) {
            HeatShares x = new HeatShares();
            x.flat(10, 1, 1);
            x.reading(0, 12, value);
            Houses.closeWithOneUnit(x, 1);
            x.reading(0, 12, 99);
            check.same("the reading goes on", x.replaced(0), HeatShares.READ);
            Houses.closeWithOneUnit(x, 1);
            check.same("units from " + value, x.known(0), value == 0 ? 99 : NONE);
        }
        HeatShares y = new HeatShares();
        y.flat(10, 1, 1);
        y.reading(0, 0, 5);
        Houses.closeWithOneUnit(y, 1);
        y.reading(0, 12, 9);
        check.same("none at 12: none at 0", y.replaced(0), HeatShares.CANNOT);
    }

    private static void closeTakesReadings() {
        HeatShares x = new HeatShares();
        x.flat(10, 1, 1);
        for (int t = 0; t <= 12; t++) {
            x.reading(0, t, 80 + t);
        }
        Houses.closeWithOneUnit(x, 1);
        check.same("none at 12 any more", x.replaced(0), HeatShares.CANNOT);
        x.reading(0, 0, 0);
        x.reading(0, 12, 1);
        check.same("none between any more", x.replaced(0), HeatShares.READ);
        Houses.refuel(x, 100);
        for (int t = 1; t < 12; t++) {
            x.leave(0, t);
        }
        check.same("no reading parts the year", x.bill(), NONE);
    }

    private static void closeTakesChanges() {
        HeatShares x = new HeatShares();
        x.flat(10, 1, 1);
        for (int t = 0; t < 12; t += 2) {
            x.enter(0, t);
            x.leave(0, t + 1);
        }
        x.reading(0, 12, 5);
        Houses.closeWithOneUnit(x, 1);
        x.reading(0, 12, 6);
        Houses.refuel(x, 2400);
        check.same("one span: no degrees are needed", x.bill(), 0);
        check.same("the landlord's", x.amount(NONE, 0), 1200);
        for (int t = 0; t < 12; t++) {
            int time = t;
            check.takes("a change at " + t, () -> x.leave(0, time));
        }
    }

    private static void closeTakesPaid() {
        HeatShares x = Houses.full();
        for (int t = 0; t < 20; t++) {
            x.prepay(t, 20000);
        }
        x.bill();
        check.same("before", x.paid(19), 20000);
        x.closeYear();
        for (int t = 0; t < 20; t++) {
            check.same("paid of tenant " + t, x.paid(t), 0);
        }
    }

    private static void closeTakesEndStock() {
        HeatShares x = new HeatShares();
        x.flat(10, 1, 1);
        x.deliver(10, 100);
        x.endStock(4);
        x.bill();
        x.closeYear();
        check.same("there is fuel, but no end stock", x.bill(), NONE);
        x.deliver(10, 100);
        check.same("nor after a delivery", x.bill(), NONE);
        x.endStock(4);
        check.same("it is given", x.bill(), 2);
        check.same("burned", x.part(0), 10);
    }

    private static void closeTakesLitres() {
        HeatShares x = smallHouse();
        x.water(0, 50);
        x.bill();
        check.same("no water", x.part(2), 0);
        x.closeYear();
        x.deliver(100, 10000);
        x.endStock(0);
        x.bill();
        check.same("not measured", x.part(2), 1800);
    }

    private static void closeTakesSideCosts() {
        HeatShares x = smallHouse();
        x.sideCosts(20000);
        x.bill();
        check.same("with side costs", x.part(1), 30000);
        x.closeYear();
        x.deliver(100, 10000);
        x.endStock(0);
        x.bill();
        check.same("without", x.part(1), 10000);
    }

    private static void closeLeavesDegrees() {
        HeatShares x = new HeatShares();
        x.flat(10, 1, 1);
        x.reading(0, 12, 0);
        Houses.setDegrees(x, 1, 2, 3, 4, 5, 6, 7, 8, 9, 10, 11, 34);
        Houses.closeWithOneUnit(x, 1);
        for (int t = 0; t < 12; t++) {
            x.enter(0, t);
        }
        x.reading(0, 12, 1);
        Houses.refuel(x, 20000);
        check.same("they sum up to 100", x.bill(), 0);
        for (int t = 0; t < 12; t++) {
            check.same("month " + t, x.amount(t, 1), 100 * (t < 11 ? t + 1 : 34));
        }
    }

    private static void closeLeavesPermille() {
        for (int p : new int[] {300, 700}) {
            HeatShares x = smallHouse();
            x.permille(p);
            x.bill();
            x.closeYear();
            Houses.refuel(x, 1000);
            x.bill();
            check.same("fixed", x.part(3), p);
        }
    }

    private static void closeForgetsSent() {
        HeatShares x = smallHouse();
        x.bill();
        x.send();
        x.closeYear();
        x.deliver(100, 10000);
        x.endStock(0);
        x.bill();
        check.same("send", x.send(), 2);
        check.same("the same bill in full", x.sent(0), 5080);
        check.same("the landlord's", x.sent(NONE), 4920);
    }

    /** Each year burns a hundred units of what it has and gets a hundred anew. */
    private static void manyYears() {
        HeatShares x = new HeatShares();
        x.flat(10, 1, 1);
        x.enter(0, 0);
        x.reading(0, 12, 0);
        x.deliver(50, 500);
        for (int year = 0; year < 60; year++) {
            x.deliver(100, 1000);
            x.endStock(50);
            check.same("bill", x.bill(), year == 0 ? 2 : 0);
            check.same("cost", x.part(1), 1000);
            check.same("all of it", x.amount(0, 3), 1000);
            check.same("units that lie there", x.closeYear(), 50);
            check.same("known", x.known(0), year == 0 ? NONE : 1);
            x.reading(0, 12, year + 1);
        }
    }

    private static void knownOfNone() {
        HeatShares x = new HeatShares();
        x.flat(10, 1, 1);
        Houses.read(x, 0, 0, 9);
        check.same("first year", x.known(0), NONE);
        Houses.refuel(x, 100);
        x.bill();
        x.send();
        check.same("with a bill that was sent", x.known(0), NONE);
        x.closeYear();
        check.same("next year", x.known(0), 9);
        check.same("a new flat", x.known(x.flat(1, 1, 1)), NONE);
    }

    private static void knownOfLastYearAlone() {
        HeatShares x = new HeatShares();
        x.flat(10, 1, 1);
        Houses.read(x, 0, 0, 9);
        Houses.closeWithOneUnit(x, 1);
        x.reading(0, 12, 20);
        check.same("not this year's", x.known(0), 9);
        Houses.closeWithOneUnit(x, 1);
        check.same("last year's", x.known(0), 11);
        Houses.closeWithOneUnit(x, 1);
        check.same("not that of the year before", x.known(0), NONE);
    }

    private static void promise19SentOfWhom() {
        HeatShares x = smallHouse();
        check.refuses(INDEX, "sent(-2)", () -> x.sent(-2));
        check.refuses(INDEX, "sent(1)", () -> x.sent(1));
        check.refuses(INDEX, "sent(least)", () -> x.sent(Integer.MIN_VALUE));
        check.refuses(INDEX, "sent(most)", () -> x.sent(Integer.MAX_VALUE));
        check.same("sent(0)", x.sent(0), 0);
        check.same("sent(NONE)", x.sent(NONE), 0);
    }

    private static void promise20WhatStaysAndWhatGoes() {
        HeatShares x = smallHouse();
        check.refuses(STATE, "closeYear of no bill", x::closeYear);
        x.sideCosts(500);
        x.water(1000, 17);
        x.permille(300);
        x.degrees(0, 60);
        x.degrees(8, 40);
        x.endStock(10);
        x.bill();
        check.same("closeYear", x.closeYear(), 10);
        check.refuses(STATE, "part of the last year", () -> x.part(0));
        check.refuses(STATE, "amount of the last year", () -> x.amount(0, 0));
        check.refuses(STATE, "send of the last year", x::send);
        check.refuses(STATE, "closeYear again", x::closeYear);
        check.same("the end stock is not given", x.bill(), NONE);
        x.deliver(990, 9000);
        x.endStock(0);
        check.same("bill of the next year", x.bill(), 2);
        check.same("burned", x.part(0), 1000);
        check.same("no side costs", x.part(1), 10000);
        check.same("litres are not measured", x.part(2), 1800);
        check.same("permille stays", x.part(3), 2460);
        Houses.read(x, 0, 0, 9);
        Houses.read(x, 1, 0, 9);
        x.leave(0, 6);
        check.same("degrees stay", x.bill(), 0);
        check.same("60 of 100 of 9 units of 27", x.amount(0, 1), 5740 * 60 / 300);
    }

    private static void promise20TheBillIsSent() {
        HeatShares x = smallHouse();
        x.bill();
        x.send();
        x.sideCosts(1);
        x.bill();
        x.closeYear();
        check.same("no send of this year", x.sent(0), 0);
        check.same("none to the landlord", x.sent(NONE), 0);
        x.deliver(100, 10000);
        x.endStock(0);
        x.bill();
        check.same("send in the next year", x.send(), 2);
        check.same("nothing was sent before", x.sent(0), 5080);
        check.same("nor to the landlord", x.sent(NONE), 4920);
    }

    private static void promise20Layers() {
        HeatShares x = new HeatShares();
        x.flat(1, 1, 1);
        x.deliver(10, 1000);
        x.deliver(7, 500);
        x.deliver(5, 900);
        x.endStock(8);
        x.bill();
        check.same("units in layers", x.closeYear(), 8);
        x.deliver(1, 50);
        x.endStock(6);
        x.bill();
        check.same("burned are the oldest", x.part(0), 3);
        check.same("their cents", x.part(1), 500 * 3 / 7);
        check.same("units in the next year", x.closeYear(), 6);
        x.endStock(0);
        x.bill();
        check.same("the others' cents", x.part(1), 950);
        check.same("no units are left", x.closeYear(), 0);
        x.endStock(0);
        check.same("nothing to burn", x.bill(), NONE);
        HeatShares y = new HeatShares();
        y.flat(1, 1, 1);
        y.deliver(7, 1000);
        y.endStock(3);
        y.bill();
        y.closeYear();
        y.endStock(2);
        y.bill();
        check.same("428 - 428 * 2 / 3", y.part(1), 143);
    }

    private static void promise20LayersAreCounted() {
        HeatShares x = new HeatShares();
        x.flat(1, 1, 1);
        for (int n = 0; n < 12; n++) {
            x.deliver(10, 100);
        }
        x.endStock(25);
        x.bill();
        check.same("units in layers", x.closeYear(), 25);
        for (int n = 0; n < 9; n++) {
            x.deliver(1, 1);
        }
        check.refuses(UnsupportedOperationException.class, "layers of both years",
                () -> x.deliver(1, 1));
    }

    private static void promise20WhoHasTheFlat() {
        HeatShares x = new HeatShares();
        x.flat(10, 10, 1);
        x.flat(10, 10, 1);
        x.enter(0, 3);
        x.enter(1, 0);
        x.leave(1, 11);
        x.deliver(1, 2400);
        x.endStock(0);
        x.bill();
        x.closeYear();
        x.flat(20, 0, 1);
        x.deliver(1, 4800);
        x.endStock(0);
        x.bill();
        check.same("a tenant stays", x.amount(0, 0), 600);
        check.same("one who left is gone", x.amount(1, 0), 0);
        check.same("empty flats are the landlord's", x.amount(NONE, 0), 1800);
        check.same("send passes by who is gone", x.send(), 2);
        check.same("the next tenant", x.enter(0, 3), 2);
        x.bill();
        check.same("three months of the one who stayed", x.amount(0, 0), 150);
        check.same("nine months of the next", x.amount(2, 0), 450);
        x.closeYear();
        x.leave(0, 0);
        x.deliver(1, 4800);
        x.endStock(0);
        x.bill();
        check.same("left at 0", x.amount(2, 0), 0);
        check.same("the landlord has all", x.amount(NONE, 0), 2400);
    }

    private static void promise20ReadingsGoOn() {
        HeatShares x = smallHouse();
        Houses.read(x, 0, 10, 30);
        x.reading(0, 5, 29);
        x.reading(1, 0, 5);
        x.bill();
        x.closeYear();
        check.same("one reading alone", x.replaced(0), HeatShares.CANNOT);
        x.reading(0, 12, 31);
        check.same("that at 12 is at 0, that at 5 is gone", x.replaced(0), HeatShares.READ);
        x.reading(1, 12, 6);
        check.same("none at 12 is none at 0", x.replaced(1), HeatShares.LAST);
        x.deliver(1, 1);
        x.endStock(0);
        x.bill();
        x.closeYear();
        check.same("units from 30 on", x.known(0), 1);
    }

    private static void promise21Known() {
        HeatShares x = smallHouse();
        check.refuses(INDEX, "known(-1)", () -> x.known(-1));
        check.refuses(INDEX, "known(2)", () -> x.known(2));
        check.refuses(INDEX, "known(least)", () -> x.known(Integer.MIN_VALUE));
        check.refuses(INDEX, "known(most)", () -> x.known(Integer.MAX_VALUE));
        Houses.read(x, 0, 10, 20);
        Houses.read(x, 1, 20, 30);
        x.bill();
        check.same("in the first year", x.known(0), NONE);
        x.closeYear();
        check.same("units by factor 1", x.known(0), 10);
        check.same("units by factor 2", x.known(1), 20);
        x.flat(1, 1, 1);
        check.same("a new flat", x.known(2), NONE);
        x.reading(0, 12, 20);
        check.same("readings leave it", x.known(0), 10);
        x.deliver(1, 1);
        x.endStock(0);
        x.bill();
        x.closeYear();
        check.same("0 units are not known", x.known(0), NONE);
        check.same("like flats of 0 units neither", x.known(1), NONE);
        x.reading(0, 0, -1);
        x.deliver(1, 1);
        x.endStock(0);
        x.bill();
        x.closeYear();
        check.same("one that can't be replaced", x.known(0), NONE);
    }

    private static void promise21KnownOfFractions() {
        HeatShares x = new HeatShares();
        x.flat(3, 0, 1);
        x.flat(1, 0, 1);
        x.flat(2, 0, 1);
        Houses.read(x, 0, 0, 2);
        x.deliver(1, 1);
        x.endStock(0);
        check.same("by area", x.bill(), 2);
        x.closeYear();
        check.same("2 units", x.known(0), 2);
        check.same("2/3 units", x.known(1), NONE);
        check.same("4/3 units", x.known(2), 1);
    }

    /** Known are 10, 30 and 20 units; then flats 0 and 1 have 20 and 21, and flat 3 is new. */
    private static void lastYearReplacesMeters() {
        HeatShares x = new HeatShares();
        x.flat(40, 0, 1);
        x.flat(40, 0, 1);
        x.flat(11, 0, 1);
        Houses.read(x, 0, 0, 10);
        Houses.read(x, 1, 0, 30);
        Houses.read(x, 2, 0, 20);
        x.deliver(1, 1);
        x.endStock(0);
        x.bill();
        x.closeYear();
        x.flat(9, 0, 1);
        x.enter(2, 0);
        x.enter(3, 0);
        x.deliver(1, 20000);
        x.endStock(0);
        check.same("nothing is read", x.replaced(2), HeatShares.CANNOT);
        x.reading(0, 12, 10);
        check.same("known meters of no units", x.replaced(2), HeatShares.LIKE);
        x.reading(0, 12, 30);
        x.reading(1, 12, 51);
        check.same("by last year", x.replaced(2), HeatShares.LAST);
        check.same("not known", x.replaced(3), HeatShares.LIKE);
        check.same("bill", x.bill(), 0);
        // flat 2 has 20 * 41 / 40 units, flat 3 9 * 41 / 80: 41, 20.5 and 4.6125 of 66.1125
        check.same("metered by last year", x.amount(0, 1), 3101);
        check.same("metered by like flats", x.amount(1, 1), 698);
        check.same("metered by readings", x.amount(NONE, 1), 6201);
        x.closeYear();
        check.same("known by last year", x.known(2), 20);
        check.same("known by like flats", x.known(3), 4);
        Houses.read(x, 3, 0, 8);
        check.same("replaced units are known ones too", x.replaced(2), HeatShares.LAST);
    }

    private static void lastYearReplacesUpTo200() {
        HeatShares x = new HeatShares();
        x.flat(45, 0, 2);
        x.flat(15, 0, 2);
        Houses.read(x, 0, 0, 1);
        Houses.read(x, 1, 0, 50);
        x.deliver(1, 1);
        x.endStock(0);
        x.bill();
        x.closeYear();
        Houses.read(x, 0, 1, 3);
        x.reading(1, 0, -1);
        x.enter(1, 0);
        x.deliver(1, 20000);
        x.endStock(0);
        check.same("bill", x.bill(), 0);
        check.same("100 * 4 / 2 units of 204", x.amount(0, 1), 9804);
        Houses.read(x, 0, 1, 5);
        x.bill();
        check.same("200 units of 208", x.amount(0, 1), 9615);
        x.closeYear();
        check.same("known are 200", x.known(1), 200);
    }
}
