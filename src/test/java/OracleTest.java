import java.util.ArrayList;
import java.util.Arrays;
import java.util.List;
import java.util.Random;
import java.util.function.IntSupplier;

/** Many runs of calls, the same ones each time: every answer is held against the Oracle's. */
public final class OracleTest {
    private static final int RUNS = 4000;
    private static final int FULL_RUNS = 80;
    private static final int STEPS = 100;
    /** The document leaves free what an object answers after these. */
    private static final int MOST_CALLS = 512;
    private static final int THREW = 1000000000;

    private final Check check;
    private final Random dice;
    private final HeatShares program = new HeatShares();
    private final Oracle oracle = new Oracle();
    private final List<String> calls = new ArrayList<>();
    private final boolean[][] hasReading = new boolean[6][13];
    private int flats = 0;
    private int tenants = 0;
    private static int byMeters = 0;
    private static int byArea = 0;
    private static int closed = 0;
    private static int lasts = 0;
    private static int likes = 0;

    private OracleTest(Check check, int run) {
        this.check = check;
        this.dice = new Random(run);
    }

    public static void main(String[] args) {
        Check check = new Check();
        for (int run = 0; run < RUNS && !check.isWrong(); run++) {
            OracleTest test = new OracleTest(check, run);
            if (run < FULL_RUNS) {
                test.runFull(run % 2 == 0);
            } else {
                test.run();
            }
            if (check.isWrong()) {
                System.out.println("run " + run + ": " + String.join(" ", test.calls));
            }
        }
        System.out.println(byMeters + " bills by meters, " + byArea + " by area, "
                + closed + " years closed; by meters with " + lasts + " replaced by last year, "
                + likes + " by like flats");
        int fewest = Math.min(Math.min(Math.min(byMeters, byArea), closed), Math.min(lasts, likes));
        check.same("enough of each kind was tried", fewest > RUNS / 10 ? 1 : 0, 1);
        check.end();
    }

    private void run() {
        int first = 1 + dice.nextInt(6);
        for (int f = 0; f < first; f++) {
            addFlat();
        }
        setAllDegrees();
        for (int n = 0; n < STEPS && !check.isWrong(); n++) {
            step();
        }
    }

    /**
     * Six flats with a change at each time, twenty tenants, twelve layers: as full as can be. There
     * are calls enough for two such years, or for one whose bill is corrected.
     */
    private void runFull(boolean corrected) {
        while (flats < 6) {
            addFlat();
        }
        setAllDegrees();
        fillYear(true);
        makeBill();
        same("send", program::send, oracle::send);
        if (corrected) {
            ask();
            tellCosts();
            makeBill();
            same("send", program::send, oracle::send);
            ask();
        }
        countClosed(same("closeYear", program::closeYear, oracle::closeYear));
        fillYear(false);
        makeBill();
    }

    private void fillYear(boolean fromTheFirst) {
        for (int n = 0; n < 13; n++) {
            tellDelivery();
        }
        tellStock();
        for (int n = 0; n < 72; n++) {
            int at = fromTheFirst ? n : 71 - n;
            changeFull(at % 6, at / 6);
        }
        for (int f = 0; f < 6; f++) {
            readFlat(f);
        }
    }

    private void changeFull(int flat, int time) {
        if (dice.nextInt(3) == 0) {
            tellEnter(flat, time);
        }
        tellLeave(flat, time);
    }

    private void step() {
        switch (dice.nextInt(24)) {
            case 0 -> { if (dice.nextInt(8) == 0) addFlat(); }
            case 1 -> changeReading();
            case 2, 3 -> readFlat(flat());
            case 4 -> readAll();
            case 5 -> tellChange();
            case 6 -> tellDelivery();
            case 7, 8 -> tellStock();
            case 9 -> tellCosts();
            case 10 -> { if (dice.nextInt(3) == 0) setAllDegrees(); }
            case 11 -> tellDegrees();
            case 12 -> pay();
            case 13, 14, 15 -> makeBill();
            case 16, 17 -> same("send", program::send, oracle::send);
            case 18 -> ask();
            case 19 -> askMeters();
            case 20, 21 -> close();
            default -> makeYear();
        }
    }

    private int same(String call, IntSupplier asked, IntSupplier due) {
        if (calls.size() >= MOST_CALLS) {
            return THREW;
        }
        calls.add(call);
        int got = answer(asked);
        check.same(call, got, answer(due));
        return got;
    }

    private static int answer(IntSupplier call) {
        try {
            return call.getAsInt();
        } catch (RuntimeException thrown) {
            return THREW + thrown.getClass().getSimpleName().length();
        }
    }

    private interface Fact {
        void tell();
    }

    private int tell(String call, Fact told, IntSupplier due) {
        return same(call, () -> {
            told.tell();
            return 0;
        }, due);
    }

    /** Mostly a number inside the bounds, often one at them, now and then one outside. */
    private int number(int least, int most) {
        int kind = dice.nextInt(60);
        if (kind == 0) {
            return dice.nextBoolean() ? least - 1 : most + 1;
        }
        if (kind < 5) {
            return dice.nextBoolean() ? least : most;
        }
        return least + dice.nextInt(most - least + 1);
    }

    private int flat() {
        return number(0, Math.max(0, flats - 1));
    }

    private void addFlat() {
        int area = dice.nextInt(3) == 0 ? number(1, 6) : number(1, 50);
        int waterArea = dice.nextInt(3) == 0 ? 0 : number(0, 50);
        int factor = number(1, 2);
        int got = same("flat(" + area + "," + waterArea + "," + factor + ")",
                () -> program.flat(area, waterArea, factor),
                () -> oracle.flat(area, waterArea, factor));
        flats += got < THREW ? 1 : 0;
    }

    private void tellReading(int flat, int time, int value) {
        int got = tell("reading(" + flat + "," + time + "," + value + ")",
                () -> program.reading(flat, time, value),
                () -> oracle.reading(flat, time, value));
        if (got < THREW) {
            hasReading[flat][time] = value >= 0;
        }
    }

    private void changeReading() {
        int time = number(0, 12);
        tellReading(flat(), time, dice.nextInt(3) == 0 ? number(-1, 99) : number(0, 8) + 8 * time);
    }

    /** Readings that mostly do not fall, at some times. */
    private void readFlat(int flat) {
        int value = dice.nextInt(4);
        int step = dice.nextInt(3) == 0 ? 9 : dice.nextInt(4);
        int seldom = 1 + dice.nextInt(12);
        for (int t = 0; t <= 12; t++) {
            boolean there = t == 0 || t == 12 || dice.nextInt(seldom) == 0;
            if (there || mayHaveReading(flat, t)) {
                tellReading(flat, t, there ? Math.min(99, value) : -1);
            }
            value += dice.nextInt(step + 1);
        }
        if (dice.nextInt(12) == 0) {
            tellReading(flat, 12 * dice.nextInt(2), -1);
        }
    }

    private boolean mayHaveReading(int flat, int time) {
        return flat < 0 || flat >= flats || hasReading[flat][time];
    }

    private void readAll() {
        for (int f = 0; f < flats; f++) {
            if (dice.nextInt(6) > 0) {
                readFlat(f);
            }
        }
    }

    private void tellChange() {
        int flat = flat();
        int time = number(0, 11);
        if (dice.nextInt(3) == 0) {
            tellLeave(flat, time);
        } else {
            tellEnter(flat, time);
        }
    }

    private void tellEnter(int flat, int time) {
        int got = same("enter(" + flat + "," + time + ")", () -> program.enter(flat, time),
                () -> oracle.enter(flat, time));
        tenants += got < THREW ? 1 : 0;
    }

    private void tellLeave(int flat, int time) {
        tell("leave(" + flat + "," + time + ")", () -> program.leave(flat, time),
                () -> oracle.leave(flat, time));
    }

    private void tellDelivery() {
        int units = dice.nextBoolean() ? number(1, 1000) : number(1, 9);
        int cents = dice.nextBoolean() ? number(0, 20000) : number(0, 300);
        tell("deliver(" + units + "," + cents + ")", () -> program.deliver(units, cents),
                () -> oracle.deliver(units, cents));
    }

    private void tellStock() {
        int units = dice.nextBoolean() ? number(-1, 1500) : number(0, 20);
        tell("endStock(" + units + ")", () -> program.endStock(units),
                () -> oracle.endStock(units));
    }

    private void tellCosts() {
        int cents = number(0, 20000);
        int litres = dice.nextInt(3) == 0 ? number(-1, 10000000) : number(-1, 20000);
        int gap = number(0, 100);
        int p = number(300, 700);
        switch (dice.nextInt(3)) {
            case 0 -> tell("sideCosts(" + cents + ")", () -> program.sideCosts(cents),
                    () -> oracle.sideCosts(cents));
            case 1 -> tell("water(" + litres + "," + gap + ")", () -> program.water(litres, gap),
                    () -> oracle.water(litres, gap));
            default -> tell("permille(" + p + ")", () -> program.permille(p),
                    () -> oracle.permille(p));
        }
    }

    private void tellDegrees() {
        tellDegrees(number(0, 11), dice.nextInt(4) == 0 ? number(0, 100) : number(0, 3));
    }

    private void tellDegrees(int month, int d) {
        tell("degrees(" + month + "," + d + ")", () -> program.degrees(month, d),
                () -> oracle.degrees(month, d));
    }

    private void setAllDegrees() {
        int left = 100;
        int[] degrees = new int[12];
        boolean even = dice.nextBoolean();
        while (left > 0) {
            int some = even ? 1 + dice.nextInt(Math.min(left, 9)) : 1 + dice.nextInt(left);
            degrees[dice.nextInt(12)] += some;
            left -= some;
        }
        for (int m = 0; m < 12; m++) {
            tellDegrees(m, degrees[m]);
        }
    }

    private void pay() {
        int tenant = number(0, Math.max(0, tenants - 1));
        int cents = number(0, 20000);
        tell("prepay(" + tenant + "," + cents + ")", () -> program.prepay(tenant, cents),
                () -> oracle.prepay(tenant, cents));
        same("paid(" + tenant + ")", () -> program.paid(tenant), () -> oracle.paid(tenant));
    }

    private void makeYear() {
        if (dice.nextInt(3) == 0) {
            tellDelivery();
            tellStock();
            readAll();
            makeBill();
        }
    }

    private void makeBill() {
        int got = same("bill", program::bill, oracle::bill);
        byMeters += got == 0 ? 1 : 0;
        byArea += got == 2 ? 1 : 0;
        if (got == 0) {
            countReplaced();
        }
        for (int tenant = -2; tenant <= tenants; tenant++) {
            askAmounts(tenant);
        }
        for (int what = -1; what <= 5; what++) {
            int asked = what;
            same("part(" + asked + ")", () -> program.part(asked), () -> oracle.part(asked));
        }
    }

    private void countReplaced() {
        for (int f = 0; f < flats; f++) {
            lasts += oracle.replaced(f) == HeatShares.LAST ? 1 : 0;
            likes += oracle.replaced(f) == HeatShares.LIKE ? 1 : 0;
        }
    }

    /** All three, and one of the others by turns: a run has no calls to spare. */
    private void askAmounts(int tenant) {
        int some = dice.nextInt(20) == 0 ? number(-1, 4) : dice.nextInt(3);
        same("amount(" + tenant + "," + some + ")", () -> program.amount(tenant, some),
                () -> oracle.amount(tenant, some));
        same("amount(" + tenant + ",3)", () -> program.amount(tenant, 3),
                () -> oracle.amount(tenant, 3));
    }

    private void ask() {
        for (int t = -2; t <= tenants; t++) {
            int tenant = t;
            same("sent(" + t + ")", () -> program.sent(tenant), () -> oracle.sent(tenant));
            same("paid(" + t + ")", () -> program.paid(tenant), () -> oracle.paid(tenant));
        }
    }

    private void askMeters() {
        for (int f = -1; f <= flats; f++) {
            int flat = f;
            same("replaced(" + f + ")", () -> program.replaced(flat), () -> oracle.replaced(flat));
            same("known(" + f + ")", () -> program.known(flat), () -> oracle.known(flat));
        }
    }

    private void close() {
        if (dice.nextInt(4) > 0) {
            makeBill();
        }
        countClosed(same("closeYear", program::closeYear, oracle::closeYear));
        ask();
        askMeters();
    }

    private void countClosed(int got) {
        if (got >= THREW) {
            return;
        }
        closed++;
        for (boolean[] times : hasReading) {
            boolean atEnd = times[12];
            Arrays.fill(times, false);
            times[0] = atEnd;
        }
    }
}
