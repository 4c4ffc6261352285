/** Houses that the tests begin with, and runs of calls that they have in common. */
final class Houses {
    private Houses() {
    }

    /** Fuel alone. One unit has no water part, so fixed and metered part are half of the cents. */
    static HeatShares fuelled(int cents) {
        HeatShares x = new HeatShares();
        refuel(x, cents);
        return x;
    }

    static void refuel(HeatShares x, int cents) {
        x.deliver(1, cents);
        x.endStock(0);
    }

    static void read(HeatShares x, int flat, int first, int last) {
        x.reading(flat, 0, first);
        x.reading(flat, 12, last);
    }

    /** The degrees of months 0, 1, .. ; those that are not given are 0. */
    static void setDegrees(HeatShares x, int... degrees) {
        for (int m = 0; m < 12; m++) {
            x.degrees(m, m < degrees.length ? degrees[m] : 0);
        }
    }

    /** Burns one unit more, so that there is a bill, and closes the year. */
    static void closeWithOneUnit(HeatShares x, int cents) {
        refuel(x, cents);
        x.bill();
        x.closeYear();
    }

    /**
     * A house in which every fact can be seen in the bill: three flats, one meter replaced, changes
     * with and without readings, measured water, fuel that is cut, tenants who paid; not billed.
     */
    static HeatShares busy() {
        HeatShares x = new HeatShares();
        x.flat(40, 11, 1);
        x.flat(37, 0, 2);
        x.flat(19, 23, 1);
        x.deliver(130, 9001);
        x.deliver(170, 20000);
        x.endStock(41);
        x.sideCosts(777);
        x.water(3001, 13);
        x.permille(431);
        setDegrees(x, 19, 17, 13, 8, 4, 1, 0, 0, 2, 7, 11, 18);
        read(x, 0, 3, 51);
        x.reading(0, 4, 22);
        read(x, 1, 10, 47);
        x.reading(2, 0, 5);
        x.enter(0, 0);
        x.enter(0, 4);
        x.enter(1, 3);
        x.leave(1, 9);
        x.enter(2, 7);
        x.prepay(0, 5000);
        x.prepay(2, 123);
        return x;
    }

    static HeatShares busyBilled() {
        HeatShares x = busy();
        x.bill();
        return x;
    }

    /** A bill was sent, a fact corrected, the new bill sent, and made once more. */
    static HeatShares busySent() {
        HeatShares x = busyBilled();
        x.send();
        x.sideCosts(900);
        x.bill();
        x.send();
        x.bill();
        return x;
    }

    /** The busy house in its second year, with known units, fuel of both years and a bill. */
    static HeatShares busyNextYear() {
        HeatShares x = busyBilled();
        x.closeYear();
        x.deliver(60, 7000);
        x.endStock(33);
        x.sideCosts(55);
        x.water(300, 40);
        x.reading(0, 12, 70);
        x.reading(1, 12, 61);
        x.leave(0, 2);
        x.enter(1, 5);
        x.prepay(1, 42);
        x.bill();
        return x;
    }

    /** Six flats with twelve changes each, twenty tenants and twelve layers, read each month. */
    static HeatShares full() {
        HeatShares x = new HeatShares();
        for (int f = 0; f < 6; f++) {
            x.flat(10, 10, 1);
        }
        for (int n = 0; n < 12; n++) {
            x.deliver(100, 6000);
        }
        x.endStock(0);
        for (int f = 0; f < 6; f++) {
            for (int t = 0; t <= 12; t++) {
                x.reading(f, t, 8 * t);
            }
        }
        for (int n = 0; n < 72; n++) {
            if (n < 20) {
                x.enter(n / 12, n % 12);
            } else {
                x.leave(n / 12, n % 12);
            }
        }
        return x;
    }

    /** How many calls full() makes. */
    static final int CALLS_OF_FULL = 6 + 12 + 1 + 6 * 13 + 72;
}
