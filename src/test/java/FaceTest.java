import java.lang.reflect.Constructor;
import java.lang.reflect.Field;
import java.lang.reflect.Method;
import java.lang.reflect.Modifier;
import java.util.Arrays;
import java.util.TreeSet;

/** The class shows what the document's public face has, and nothing else. */
public final class FaceTest {
    private static final String[] METHODS = {
        "int amount(int,int) ISE IOOBE", "int bill()", "int closeYear() ISE",
        "void degrees(int,int) IOOBE IAE", "void deliver(int,int) IAE UOE",
        "void endStock(int) IAE", "int enter(int,int) IOOBE ISE UOE",
        "int flat(int,int,int) IAE UOE", "int known(int) IOOBE", "void leave(int,int) IOOBE ISE",
        "int paid(int) IOOBE", "int part(int) ISE IOOBE", "void permille(int) IAE",
        "void prepay(int,int) IOOBE IAE", "void reading(int,int,int) IOOBE IAE",
        "int replaced(int) IOOBE", "int send() ISE", "int sent(int) IOOBE",
        "void sideCosts(int) IAE", "void water(int,int) IAE",
    };

    public static void main(String[] args) {
        Check check = new Check();
        check.same("NONE", HeatShares.NONE, -1);
        check.same("READ", HeatShares.READ, 0);
        check.same("LAST", HeatShares.LAST, 1);
        check.same("LIKE", HeatShares.LIKE, 2);
        check.same("CANNOT", HeatShares.CANNOT, 3);
        showsTheMethods(check);
        showsNothingElse(check);
        check.end();
    }

    private static void showsTheMethods(Check check) {
        TreeSet<String> due = new TreeSet<>(Arrays.asList(METHODS));
        TreeSet<String> shown = new TreeSet<>();
        TreeSet<String> hidden = new TreeSet<>();
        for (Method method : HeatShares.class.getDeclaredMethods()) {
            if (Modifier.isPublic(method.getModifiers())) {
                shown.add(inWords(method));
            } else {
                hidden.add(method.getName());
                check.same(method + " is private",
                        Modifier.isPrivate(method.getModifiers()) ? 1 : 0, 1);
            }
        }
        check.same("the public methods " + shown + " are " + due, shown.equals(due) ? 1 : 0, 1);
        for (Method method : HeatShares.class.getMethods()) {
            check.same(method.getName() + " names a private method",
                    hidden.contains(method.getName()) ? 1 : 0, 0);
        }
    }

    private static void showsNothingElse(Check check) {
        check.same("the class is public and final",
                HeatShares.class.getModifiers() & (Modifier.PUBLIC | Modifier.FINAL),
                Modifier.PUBLIC | Modifier.FINAL);
        Constructor<?>[] constructors = HeatShares.class.getDeclaredConstructors();
        check.same("constructors", constructors.length, 1);
        check.same("its parameters", constructors[0].getParameterCount(), 0);
        check.same("it is public",
                Modifier.isPublic(constructors[0].getModifiers()) ? 1 : 0, 1);
        int shown = 0;
        for (Field field : HeatShares.class.getDeclaredFields()) {
            if (!Modifier.isPrivate(field.getModifiers())) {
                shown++;
            }
        }
        check.same("fields that are not private", shown, 5);
    }

    private static String inWords(Method method) {
        StringBuilder text = new StringBuilder();
        text.append(method.getReturnType().getName()).append(' ').append(method.getName());
        text.append('(');
        for (int i = 0; i < method.getParameterCount(); i++) {
            text.append(i > 0 ? "," : "").append(method.getParameterTypes()[i].getName());
        }
        text.append(')');
        for (Class<?> kind : method.getExceptionTypes()) {
            text.append(' ').append(kind.getSimpleName().replaceAll("[a-z]", ""));
        }
        return text.toString();
    }
}
