/** Promises 18 to 21: bills sent, years closed, and what the next year has of the last one. */
public final class YearTest {
    private static final Class<IllegalStateException> STATE = IllegalStateException.class;
    private static final Class<IndexOutOfBoundsException> INDEX = IndexOutOfBoundsException.class;
    private static final int NONE = HeatShares.NONE;
    private static final Check check = new Check();

    public static void main(String[] args) {
        promise18And19SendAnew();
        promise19SentOfWhom();
        promise20WhatStaysAndWhatGoes();
        promise20TheBillIsSent();
        promise20Layers();
        promise20LayersAreCounted();
        promise20WhoHasTheFlat();
        promise20ReadingsGoOn();
        promise21Known();
        promise21KnownOfFractions();
        lastYearReplacesMeters();
        lastYearReplacesUpTo200();
        check.end();
    }

    private static HeatShares smallHouse() {
        HeatShares x = new HeatShares();
        x.flat(20, 10, 1);
        x.flat(30, 0, 2);
        x.enter(0, 0);
        x.deliver(100, 10000);
        x.endStock(0);
        return x;
    }

    private static void read(HeatShares x, int flat, int first, int last) {
        x.reading(flat, 0, first);
        x.reading(flat, 12, last);
    }

    private static void promise18And19SendAnew() {
        HeatShares x = smallHouse();
        check.refuses(STATE, "send of no bill", x::send);
        x.prepay(0, 300);
        x.bill();
        check.same("sent before send", x.sent(0), 0);
        check.same("send to two", x.send(), 2);
        check.same("not less what was paid", x.sent(0), 5080);
        check.same("the landlord got", x.sent(NONE), 4920);
        check.same("the bill stays", x.amount(0, 3), 5080);
        check.same("send again", x.send(), 0);
        check.same("nothing by the second", x.sent(0), 0);
        check.same("nothing to the landlord", x.sent(NONE), 0);
        x.sideCosts(1000);
        check.same("a new fact leaves what was sent", x.sent(0), 0);
        x.bill();
        check.same("send more", x.send(), 2);
        check.same("tenant 0 got more", x.sent(0), 508);
        check.same("the landlord got more", x.sent(NONE), 492);
        check.same("a tenant comes", x.enter(1, 0), 1);
        check.same("what was sent stays", x.sent(0), 508);
        check.same("the new one got nothing", x.sent(1), 0);
        check.refuses(STATE, "send of the old bill", x::send);
        x.bill();
        check.same("send to other two", x.send(), 2);
        check.same("tenant 0 got nothing", x.sent(0), 0);
        check.same("tenant 1 got all of flat 1", x.sent(1), 5412);
        check.same("the landlord got it back", x.sent(NONE), -5412);
    }

    private static void promise19SentOfWhom() {
        HeatShares x = smallHouse();
        check.refuses(INDEX, "sent(-2)", () -> x.sent(-2));
        check.refuses(INDEX, "sent(1)", () -> x.sent(1));
        check.refuses(INDEX, "sent(least)", () -> x.sent(Integer.MIN_VALUE));
        check.refuses(INDEX, "sent(most)", () -> x.sent(Integer.MAX_VALUE));
        check.same("sent(0)", x.sent(0), 0);
        check.same("sent(NONE)", x.sent(NONE), 0);
    }

    private static void promise20WhatStaysAndWhatGoes() {
        HeatShares x = smallHouse();
        check.refuses(STATE, "closeYear of no bill", x::closeYear);
        x.sideCosts(500);
        x.water(1000, 17);
        x.permille(300);
        x.degrees(0, 60);
        x.degrees(8, 40);
        x.endStock(10);
        x.bill();
        check.same("closeYear", x.closeYear(), 10);
        check.refuses(STATE, "part of the last year", () -> x.part(0));
        check.refuses(STATE, "amount of the last year", () -> x.amount(0, 0));
        check.refuses(STATE, "send of the last year", x::send);
        check.refuses(STATE, "closeYear again", x::closeYear);
        check.same("the end stock is not given", x.bill(), NONE);
        x.deliver(990, 9000);
        x.endStock(0);
        check.same("bill of the next year", x.bill(), 2);
        check.same("burned", x.part(0), 1000);
        check.same("no side costs", x.part(1), 10000);
        check.same("litres are not measured", x.part(2), 1800);
        check.same("permille stays", x.part(3), 2460);
        read(x, 0, 0, 9);
        read(x, 1, 0, 9);
        x.leave(0, 6);
        check.same("degrees stay", x.bill(), 0);
        check.same("60 of 100 of 9 units of 27", x.amount(0, 1), 5740 * 60 / 300);
    }

    private static void promise20TheBillIsSent() {
        HeatShares x = smallHouse();
        x.bill();
        x.send();
        x.sideCosts(1);
        x.bill();
        x.closeYear();
        check.same("no send of this year", x.sent(0), 0);
        check.same("none to the landlord", x.sent(NONE), 0);
        x.deliver(100, 10000);
        x.endStock(0);
        x.bill();
        check.same("send in the next year", x.send(), 2);
        check.same("nothing was sent before", x.sent(0), 5080);
        check.same("nor to the landlord", x.sent(NONE), 4920);
    }

    private static void promise20Layers() {
        HeatShares x = new HeatShares();
        x.flat(1, 1, 1);
        x.deliver(10, 1000);
        x.deliver(7, 500);
        x.deliver(5, 900);
        x.endStock(8);
        x.bill();
        check.same("units in layers", x.closeYear(), 8);
        x.deliver(1, 50);
        x.endStock(6);
        x.bill();
        check.same("burned are the oldest", x.part(0), 3);
        check.same("their cents", x.part(1), 500 * 3 / 7);
        check.same("units in the next year", x.closeYear(), 6);
        x.endStock(0);
        x.bill();
        check.same("the others' cents", x.part(1), 950);
        check.same("no units are left", x.closeYear(), 0);
        x.endStock(0);
        check.same("nothing to burn", x.bill(), NONE);
        HeatShares y = new HeatShares();
        y.flat(1, 1, 1);
        y.deliver(7, 1000);
        y.endStock(3);
        y.bill();
        y.closeYear();
        y.endStock(2);
        y.bill();
        check.same("428 - 428 * 2 / 3", y.part(1), 143);
    }

    private static void promise20LayersAreCounted() {
        HeatShares x = new HeatShares();
        x.flat(1, 1, 1);
        for (int n = 0; n < 12; n++) {
            x.deliver(10, 100);
        }
        x.endStock(25);
        x.bill();
        check.same("units in layers", x.closeYear(), 25);
        for (int n = 0; n < 9; n++) {
            x.deliver(1, 1);
        }
        check.refuses(UnsupportedOperationException.class, "layers of both years",
                () -> x.deliver(1, 1));
    }

    private static void promise20WhoHasTheFlat() {
        HeatShares x = new HeatShares();
        x.flat(10, 10, 1);
        x.flat(10, 10, 1);
        x.enter(0, 3);
        x.enter(1, 0);
        x.leave(1, 11);
        x.deliver(1, 2400);
        x.endStock(0);
        x.bill();
        x.closeYear();
        x.flat(20, 0, 1);
        x.deliver(1, 4800);
        x.endStock(0);
        x.bill();
        check.same("a tenant stays", x.amount(0, 0), 600);
        check.same("one who left is gone", x.amount(1, 0), 0);
        check.same("empty flats are the landlord's", x.amount(NONE, 0), 1800);
        check.same("send passes by who is gone", x.send(), 2);
        check.same("the next tenant", x.enter(0, 3), 2);
        x.bill();
        check.same("three months of the one who stayed", x.amount(0, 0), 150);
        check.same("nine months of the next", x.amount(2, 0), 450);
        x.closeYear();
        x.leave(0, 0);
        x.deliver(1, 4800);
        x.endStock(0);
        x.bill();
        check.same("left at 0", x.amount(2, 0), 0);
        check.same("the landlord has all", x.amount(NONE, 0), 2400);
    }

    private static void promise20ReadingsGoOn() {
        HeatShares x = smallHouse();
        read(x, 0, 10, 30);
        x.reading(0, 5, 29);
        x.reading(1, 0, 5);
        x.bill();
        x.closeYear();
        check.same("one reading alone", x.replaced(0), HeatShares.CANNOT);
        x.reading(0, 12, 31);
        check.same("that at 12 is at 0, that at 5 is gone", x.replaced(0), HeatShares.READ);
        x.reading(1, 12, 6);
        check.same("none at 12 is none at 0", x.replaced(1), HeatShares.LAST);
        x.deliver(1, 1);
        x.endStock(0);
        x.bill();
        x.closeYear();
        check.same("units from 30 on", x.known(0), 1);
    }

    private static void promise21Known() {
        HeatShares x = smallHouse();
        check.refuses(INDEX, "known(-1)", () -> x.known(-1));
        check.refuses(INDEX, "known(2)", () -> x.known(2));
        check.refuses(INDEX, "known(least)", () -> x.known(Integer.MIN_VALUE));
        check.refuses(INDEX, "known(most)", () -> x.known(Integer.MAX_VALUE));
        read(x, 0, 10, 20);
        read(x, 1, 20, 30);
        x.bill();
        check.same("in the first year", x.known(0), NONE);
        x.closeYear();
        check.same("units by factor 1", x.known(0), 10);
        check.same("units by factor 2", x.known(1), 20);
        x.flat(1, 1, 1);
        check.same("a new flat", x.known(2), NONE);
        x.reading(0, 12, 20);
        check.same("readings leave it", x.known(0), 10);
        x.deliver(1, 1);
        x.endStock(0);
        x.bill();
        x.closeYear();
        check.same("0 units are not known", x.known(0), NONE);
        check.same("like flats of 0 units neither", x.known(1), NONE);
        x.reading(0, 0, -1);
        x.deliver(1, 1);
        x.endStock(0);
        x.bill();
        x.closeYear();
        check.same("one that can't be replaced", x.known(0), NONE);
    }

    private static void promise21KnownOfFractions() {
        HeatShares x = new HeatShares();
        x.flat(3, 0, 1);
        x.flat(1, 0, 1);
        x.flat(2, 0, 1);
        read(x, 0, 0, 2);
        x.deliver(1, 1);
        x.endStock(0);
        check.same("by area", x.bill(), 2);
        x.closeYear();
        check.same("2 units", x.known(0), 2);
        check.same("2/3 units", x.known(1), NONE);
        check.same("4/3 units", x.known(2), 1);
    }

    /** Known are 10, 30 and 20 units; then flats 0 and 1 have 20 and 21, and flat 3 is new. */
    private static void lastYearReplacesMeters() {
        HeatShares x = new HeatShares();
        x.flat(40, 0, 1);
        x.flat(40, 0, 1);
        x.flat(11, 0, 1);
        read(x, 0, 0, 10);
        read(x, 1, 0, 30);
        read(x, 2, 0, 20);
        x.deliver(1, 1);
        x.endStock(0);
        x.bill();
        x.closeYear();
        x.flat(9, 0, 1);
        x.enter(2, 0);
        x.enter(3, 0);
        x.deliver(1, 20000);
        x.endStock(0);
        check.same("nothing is read", x.replaced(2), HeatShares.CANNOT);
        x.reading(0, 12, 10);
        check.same("known meters of no units", x.replaced(2), HeatShares.LIKE);
        x.reading(0, 12, 30);
        x.reading(1, 12, 51);
        check.same("by last year", x.replaced(2), HeatShares.LAST);
        check.same("not known", x.replaced(3), HeatShares.LIKE);
        check.same("bill", x.bill(), 0);
        // flat 2 has 20 * 41 / 40 units, flat 3 9 * 41 / 80: 41, 20.5 and 4.6125 of 66.1125
        check.same("metered by last year", x.amount(0, 1), 3101);
        check.same("metered by like flats", x.amount(1, 1), 698);
        check.same("metered by readings", x.amount(NONE, 1), 6201);
        x.closeYear();
        check.same("known by last year", x.known(2), 20);
        check.same("known by like flats", x.known(3), 4);
        read(x, 3, 0, 8);
        check.same("replaced units are known ones too", x.replaced(2), HeatShares.LAST);
    }

    private static void lastYearReplacesUpTo200() {
        HeatShares x = new HeatShares();
        x.flat(45, 0, 2);
        x.flat(15, 0, 2);
        read(x, 0, 0, 1);
        read(x, 1, 0, 50);
        x.deliver(1, 1);
        x.endStock(0);
        x.bill();
        x.closeYear();
        read(x, 0, 1, 3);
        x.reading(1, 0, -1);
        x.enter(1, 0);
        x.deliver(1, 20000);
        x.endStock(0);
        check.same("bill", x.bill(), 0);
        check.same("100 * 4 / 2 units of 204", x.amount(0, 1), 9804);
        read(x, 0, 1, 5);
        x.bill();
        check.same("200 units of 208", x.amount(0, 1), 9615);
        x.closeYear();
        check.same("known are 200", x.known(1), 200);
    }
}
