import java.lang.reflect.Constructor;
import java.lang.reflect.Field;
import java.lang.reflect.Method;
import java.lang.reflect.Modifier;
import java.util.Set;
import java.util.TreeSet;

/** The class has the face of the document, and nothing else can be seen from outside. */
public final class FaceTest {
    private static final String[] FACE = {
        "write 1", "wipe 0", "fault 0", "lay 0", "village 2", "party 2", "far 2", "ask 2", "check 1", "strike 1",
        "undo 0", "soonest 1", "most 1", "least 1", "checks 2", "see 2", "forget 0", "kinds 1", "copies 0",
        "agree 2", "honest 3", "shire 3", "keep 0", "back 0", "count 1"
    };

    public static void main(String[] args) {
        Due.due("public", Modifier.isPublic(NotAnOx.class.getModifiers()) ? 1 : 0, 1);
        Due.due("final", Modifier.isFinal(NotAnOx.class.getModifiers()) ? 1 : 0, 1);
        constants();
        constructors();
        methods();
        insideClasses();
        wildNumbersNeverThrow();
        Due.end();
    }

    private static void constants() {
        Due.due("BAD", NotAnOx.BAD, -1);
        Due.due("NO", NotAnOx.NO, -2);
        Due.due("FULL", NotAnOx.FULL, -3);
        Due.due("NONE", NotAnOx.NONE, -4);
        Set<String> open = new TreeSet<>();
        for (Field field : NotAnOx.class.getDeclaredFields()) {
            if (!Modifier.isPrivate(field.getModifiers())) {
                open.add(field.getName());
            }
            if (Modifier.isStatic(field.getModifiers())) {
                Due.due("final: " + field.getName(), Modifier.isFinal(field.getModifiers()) ? 1 : 0, 1);
            }
        }
        Due.due("constants " + open, open.equals(Set.of("BAD", "NO", "FULL", "NONE")) ? 1 : 0, 1);
    }

    private static void constructors() {
        Constructor<?>[] all = NotAnOx.class.getDeclaredConstructors();
        Due.due("constructors", all.length, 1);
        Due.due("without parameters", all[0].getParameterCount(), 0);
        Due.due("public constructor", Modifier.isPublic(all[0].getModifiers()) ? 1 : 0, 1);
    }

    private static void methods() {
        Set<String> open = new TreeSet<>();
        Set<String> names = new TreeSet<>();
        for (String call : FACE) {
            names.add(call.substring(0, call.indexOf(' ')));
        }
        for (Method method : NotAnOx.class.getDeclaredMethods()) {
            if (Modifier.isPrivate(method.getModifiers())) {
                Due.due("private " + method.getName(), names.contains(method.getName()) ? 1 : 0, 0);
            } else {
                open.add(method.getName() + " " + method.getParameterCount());
                Due.due("int " + method.getName(), method.getReturnType() == int.class ? 1 : 0, 1);
                Due.due("public " + method.getName(), Modifier.isPublic(method.getModifiers()) ? 1 : 0, 1);
            }
        }
        Due.due("methods " + open, open.equals(new TreeSet<>(Set.of(FACE))) ? 1 : 0, 1);
    }

    private static void insideClasses() {
        for (Class<?> inside : NotAnOx.class.getDeclaredClasses()) {
            int modifiers = inside.getModifiers();
            Due.due("static " + inside.getName(), Modifier.isStatic(modifiers) ? 1 : 0, 1);
            Due.due("not open " + inside.getName(),
                Modifier.isPublic(modifiers) || Modifier.isProtected(modifiers) ? 1 : 0, 0);
        }
        Due.due("at most twelve classes", NotAnOx.class.getDeclaredClasses().length <= 11 ? 1 : 0, 1);
    }

    private static void wildNumbersNeverThrow() {
        int[] wild = {Integer.MIN_VALUE, -100, -1, 7, 8, 31, 32, 33, 64, 1 << 16, 1 << 20, Integer.MAX_VALUE};
        NotAnOx x = new NotAnOx();
        int due = 0;
        for (int a : wild) {
            due += x.village(a, 1) + x.village(0, a) + x.party(a, 0) + x.party(0, a) + x.far(a, 0) + x.far(0, a);
            due += x.ask(a, 0) + x.ask(0, a) + x.check(a) + x.strike(a) + x.checks(a, 0) + x.checks(1, a);
            due += x.see(a, 1) + x.kinds(a) + x.agree(a, 0) + x.agree(0, a) + x.honest(1, 1, a) + x.shire(1, 1, a);
        }
        Due.due("BAD of each wild number", due, -18 * wild.length);
        Due.due("nothing came of it", x.count(2) + x.count(7) + x.count(8), 0);
    }
}
