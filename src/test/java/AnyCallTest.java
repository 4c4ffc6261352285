import java.lang.reflect.InvocationTargetException;
import java.lang.reflect.Method;
import java.lang.reflect.Modifier;
import java.util.Arrays;
import java.util.Comparator;
import java.util.List;
import java.util.Random;

/**
 * LANGUAGE.md's rules 6 and 7: whatever a call is given, in whatever state, it throws nothing but what
 * the face names for it, and no subclass of that, such as Java throws by itself. The runs are the
 * same each time. Some go on after the 512th call: answers are free there, but rule 7 still binds.
 */
public final class AnyCallTest {
    private static final int RUNS = 400;
    private static final int CALLS = 1500;
    private static final int[] FAR_OUT = {Integer.MIN_VALUE, Integer.MIN_VALUE + 1, -1000, -2, -1,
        1001, 20001, 10000001, Integer.MAX_VALUE - 1, Integer.MAX_VALUE};
    private static final int[] LARGE = {100, 300, 700, 1000, 20000, 10000000};

    private final Check check;
    private final Random dice;
    private static int taken = 0;
    private static int refused = 0;

    private AnyCallTest(Check check, int run) {
        this.check = check;
        this.dice = new Random(run);
    }

    public static void main(String[] args) throws IllegalAccessException {
        Check check = new Check();
        List<Method> methods = Arrays.stream(HeatShares.class.getDeclaredMethods())
                .filter(method -> Modifier.isPublic(method.getModifiers()))
                .sorted(Comparator.comparing(Method::getName)).toList();
        check.same("calls of the face", methods.size(), 20);
        for (int run = 0; run < RUNS && !check.isWrong(); run++) {
            new AnyCallTest(check, run).run(methods, houseOf(run));
        }
        System.out.println(taken + " calls taken, " + refused + " refused");
        check.same("enough were taken", taken > RUNS * CALLS / 10 ? 1 : 0, 1);
        check.same("enough were refused", refused > RUNS * CALLS / 10 ? 1 : 0, 1);
        check.end();
    }

    private static HeatShares houseOf(int run) {
        switch (run % 5) {
            case 0: return new HeatShares();
            case 1: return Houses.busy();
            case 2: return Houses.busySent();
            case 3: return Houses.busyNextYear();
            default: return Houses.full();
        }
    }

    private void run(List<Method> methods, HeatShares house) throws IllegalAccessException {
        for (int n = 0; n < CALLS && !check.isWrong(); n++) {
            Method method = methods.get(dice.nextInt(methods.size()));
            Object[] arguments = new Object[method.getParameterCount()];
            for (int i = 0; i < arguments.length; i++) {
                arguments[i] = anyNumber();
            }
            callOnce(method, house, arguments);
        }
    }

    private int anyNumber() {
        switch (dice.nextInt(12)) {
            case 0: return FAR_OUT[dice.nextInt(FAR_OUT.length)];
            case 1: return LARGE[dice.nextInt(LARGE.length)];
            case 2: return dice.nextInt(500);
            case 3, 4: return dice.nextInt(100);
            case 5: return dice.nextBoolean() ? 0 : 12;
            default: return dice.nextInt(15) - 1;
        }
    }

    private void callOnce(Method method, HeatShares house, Object[] arguments)
            throws IllegalAccessException {
        try {
            method.invoke(house, arguments);
            taken++;
        } catch (InvocationTargetException thrown) {
            refused++;
            Class<?> kind = thrown.getCause().getClass();
            boolean isNamed = Arrays.asList(method.getExceptionTypes()).contains(kind);
            check.same(method.getName() + Arrays.toString(arguments) + " threw "
                    + kind.getSimpleName() + ", which it names", isNamed ? 1 : 0, 1);
        }
    }
}
