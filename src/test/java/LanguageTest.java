import com.sun.source.tree.CompilationUnitTree;
import com.sun.source.util.JavacTask;
import com.sun.source.util.Trees;
import java.io.IOException;
import java.lang.reflect.Array;
import java.lang.reflect.Field;
import java.lang.reflect.Modifier;
import java.nio.file.Path;
import java.util.ArrayList;
import java.util.Collections;
import java.util.IdentityHashMap;
import java.util.List;
import java.util.Map;
import java.util.Set;
import javax.tools.JavaCompiler;
import javax.tools.StandardJavaFileManager;
import javax.tools.ToolProvider;

/**
 * The rules of LANGUAGE.md that can be counted or looked up in the program's text, and the room that
 * an object takes. Rule 7, that no call throws by itself, has AnyCallTest.
 */
public final class LanguageTest {
    private static final Path PROGRAM = Path.of("src/main/java/HeatShares.java");

    public static void main(String[] args) throws IOException {
        ProgramText text = read();
        Check check = new Check();
        for (Map.Entry<String, List<String>> rule : text.faults().entrySet()) {
            check.test(rule.getKey(), () -> isWithout(check, rule.getValue()));
        }
        check.test("the text was read whole", () -> isReadWhole(check, text));
        check.test("an object's room: its objects and its fields and elements",
                () -> takesLittleRoom(check));
        check.end();
    }

    private static ProgramText read() throws IOException {
        JavaCompiler compiler = ToolProvider.getSystemJavaCompiler();
        try (StandardJavaFileManager files = compiler.getStandardFileManager(null, null, null)) {
            JavacTask task = (JavacTask) compiler.getTask(null, files, null,
                    List.of("-proc:none"), null, files.getJavaFileObjects(PROGRAM));
            ProgramText text = new ProgramText(Trees.instance(task));
            List<CompilationUnitTree> units = new ArrayList<>();
            task.parse().forEach(units::add);
            task.analyze();
            units.forEach(text::readUnit);
            return text;
        }
    }

    private static void isWithout(Check check, List<String> faults) {
        check.same("faults " + faults, faults.size(), 0);
    }

    /** A reader that sees nothing would find no fault. */
    private static void isReadWhole(Check check, ProgramText text) {
        int nested = HeatShares.class.getDeclaredClasses().length;
        check.same("classes", text.classCount(), 1 + nested);
        int methods = HeatShares.class.getDeclaredMethods().length;
        for (Class<?> inside : HeatShares.class.getDeclaredClasses()) {
            methods += inside.getDeclaredMethods().length;
        }
        check.same("methods", text.methodCount(), methods);
    }

    /** What is due is of this program: a run may have thousands of objects and stay in its room. */
    private static void takesLittleRoom(Check check) {
        HeatShares x = Houses.busyNextYear();
        Set<Object> seen = Collections.newSetFromMap(new IdentityHashMap<>());
        int cells = countCells(x, seen);
        check.same(seen.size() + " objects are at most 60", seen.size() <= 60 ? 1 : 0, 1);
        check.same(cells + " fields and elements are at most 1500", cells <= 1500 ? 1 : 0, 1);
        check.same("more than the object itself was seen", seen.size() > 6 ? 1 : 0, 1);
    }

    private static int countCells(Object held, Set<Object> seen) {
        if (held == null || !seen.add(held)) {
            return 0;
        }
        return held.getClass().isArray() ? countElements(held, seen) : countFields(held, seen);
    }

    private static int countElements(Object row, Set<Object> seen) {
        int cells = Array.getLength(row);
        if (!row.getClass().getComponentType().isPrimitive()) {
            for (int i = 0; i < Array.getLength(row); i++) {
                cells += countCells(Array.get(row, i), seen);
            }
        }
        return cells;
    }

    private static int countFields(Object held, Set<Object> seen) {
        int cells = 0;
        for (Field field : held.getClass().getDeclaredFields()) {
            if (!Modifier.isStatic(field.getModifiers())) {
                cells++;
                if (!field.getType().isPrimitive()) {
                    cells += countCells(valueOf(field, held), seen);
                }
            }
        }
        return cells;
    }

    private static Object valueOf(Field field, Object held) {
        try {
            field.setAccessible(true);
            return field.get(held);
        } catch (IllegalAccessException refused) {
            throw new IllegalStateException(refused);
        }
    }
}
