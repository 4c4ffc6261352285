import java.util.function.IntSupplier;

/**
 * All that an object can be seen to hold, as a text: what it answers now, the bill that it makes,
 * what that sends, and what it carries into two more years. Objects with one text hold the same.
 * It takes some 250 calls, so what made the object must leave room for them.
 */
final class Probe {
    private final HeatShares x;
    private final StringBuilder text = new StringBuilder();

    private Probe(HeatShares x) {
        this.x = x;
    }

    static String of(HeatShares x) {
        Probe probe = new Probe(x);
        probe.askBill("now");
        probe.askAccounts();
        probe.askMeters();
        probe.ask("bill", x::bill);
        probe.askBill("anew");
        probe.ask("send", x::send);
        probe.askAccounts();
        probe.ask("room", probe::fillLayers);
        probe.goOn();
        probe.goOn();
        probe.ask("flats", probe::fillFlats);
        probe.ask("tenant", () -> x.enter(0, 0));
        return probe.text.toString();
    }

    private void ask(String what, IntSupplier call) {
        text.append(what).append('=');
        try {
            text.append(call.getAsInt());
        } catch (RuntimeException thrown) {
            text.append(thrown.getClass().getSimpleName());
        }
        text.append(' ');
    }

    private void askBill(String when) {
        for (int what = 0; what < 5; what++) {
            int asked = what;
            ask(when + ".part" + what, () -> x.part(asked));
        }
        for (int tenant = -1; tenant < 5; tenant++) {
            for (int what = 0; what < 3; what++) {
                int who = tenant;
                int asked = what;
                ask(when + ".amount" + tenant + "," + what, () -> x.amount(who, asked));
            }
        }
    }

    private void askAccounts() {
        for (int tenant = -1; tenant <= 20; tenant++) {
            int who = tenant;
            ask("sent" + who, () -> x.sent(who));
        }
        for (int tenant = 0; tenant < 5; tenant++) {
            int who = tenant;
            ask("paid" + who, () -> x.paid(who));
        }
    }

    private void askMeters() {
        for (int flat = 0; flat <= 6; flat++) {
            int asked = flat;
            ask("replaced" + flat, () -> x.replaced(asked));
            ask("known" + flat, () -> x.known(asked));
        }
    }

    /** Into the next year, with a bill by meters that shows who has the flats and what was read. */
    private void goOn() {
        ask("bill", x::bill);
        ask("closeYear", x::closeYear);
        ask("sent", () -> x.sent(0));
        askMeters();
        for (int flat = 0; flat < 3; flat++) {
            int read = flat;
            ask("read" + flat, () -> told(() -> x.reading(read, 12, 90 + read)));
        }
        ask("deliver", () -> told(() -> x.deliver(7, 9999)));
        ask("endStock", () -> told(() -> x.endStock(3)));
        ask("bill", x::bill);
        askBill("next");
    }

    private int fillLayers() {
        int taken = 0;
        try {
            while (taken < 13) {
                x.deliver(1, 1);
                taken++;
            }
        } catch (UnsupportedOperationException full) {
            return taken;
        }
        return -1;
    }

    private int fillFlats() {
        int last = -1;
        try {
            for (int n = 0; n < 7; n++) {
                last = x.flat(1, 1, 1);
            }
        } catch (UnsupportedOperationException full) {
            return last;
        }
        return -1;
    }

    private static int told(Runnable call) {
        call.run();
        return 1;
    }
}
