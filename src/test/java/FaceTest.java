import java.lang.reflect.Constructor;
import java.lang.reflect.Field;
import java.lang.reflect.Method;
import java.lang.reflect.Modifier;
import java.util.Set;
import java.util.TreeSet;

/** The public face: just the members that the document names. */
public final class FaceTest {
    private static final String[] FACE = {
        "person(int,int,int,int,int)", "set(int,int,int)", "where(int,int)", "plain(int,int,int,int)",
        "changed(int,int,int)", "planted(int,int)", "real(int,int,int,int,boolean)", "told(int,int)",
        "weight(int,int)", "begin(int,int)", "knows(int,int,int)", "count(int)", "hours(int)",
        "reach(int,int)", "harm(int)", "deny(int,int)", "found(int)", "foretold(int)",
        "wording(int,int)", "plan(int,int)", "type(long,int)", "guide()", "why(int,int)",
        "versions(int)", "version(int,int,int)", "kin(int)", "report(int,int,boolean)", "clear()",
        "could(int,int,int)", "first(int)", "posts(int,int)", "check(int,int,int,int,int)",
        "sheet(int,int,int)", "drop(int)", "item(int,int,int,int)", "copy(int,int,int,int,int)",
        "reads(int,int)"
    };
    private static final String[] CONSTANTS = {
        "BAD=-1", "NOT=-2", "FULL=-3", "NONE=-4", "NULL=-11", "CAST=-12", "INDEX=-13", "SIZE=-14"
    };
    private static final Checks CHECKS = new Checks();

    public static void main(String[] args) throws IllegalAccessException {
        CHECKS.due("public final class", Modifier.PUBLIC | Modifier.FINAL,
                RumourDesk.class.getModifiers() & (Modifier.PUBLIC | Modifier.FINAL));
        methods();
        constants();
        constructors();
        for (Class<?> inside : RumourDesk.class.getDeclaredClasses()) {
            boolean isHidden = !Modifier.isPublic(inside.getModifiers())
                    && !Modifier.isProtected(inside.getModifiers());
            CHECKS.due(inside.getName() + " is hidden and static", 1,
                    isHidden && Modifier.isStatic(inside.getModifiers()) ? 1 : 0);
        }
        CHECKS.end();
    }

    private static void methods() {
        Set<String> wanted = new TreeSet<>(Set.of(FACE));
        Set<String> names = new TreeSet<>();
        for (String each : FACE) {
            names.add(each.substring(0, each.indexOf('(')));
        }
        for (Method m : RumourDesk.class.getDeclaredMethods()) {
            if (Modifier.isPublic(m.getModifiers())) {
                CHECKS.due(signature(m) + " is of the face", 1, wanted.remove(signature(m)) ? 1 : 0);
                CHECKS.due(m.getName() + " answers an int", 1, m.getReturnType() == int.class ? 1 : 0);
                CHECKS.due(m.getName() + " is static", 0, m.getModifiers() & Modifier.STATIC);
            } else {
                CHECKS.due(m.getName() + " is private", Modifier.PRIVATE, m.getModifiers() & Modifier.PRIVATE);
                CHECKS.due(m.getName() + " bears a public name", 0, names.contains(m.getName()) ? 1 : 0);
            }
        }
        CHECKS.due("missing: " + wanted, 0, wanted.size());
    }

    private static String signature(Method m) {
        StringBuilder all = new StringBuilder(m.getName()).append('(');
        for (Class<?> c : m.getParameterTypes()) {
            all.append(all.charAt(all.length() - 1) == '(' ? "" : ",").append(c.getName());
        }
        return all.append(')').toString();
    }

    private static void constants() throws IllegalAccessException {
        Set<String> wanted = new TreeSet<>(Set.of(CONSTANTS));
        for (Field f : RumourDesk.class.getDeclaredFields()) {
            if (Modifier.isPublic(f.getModifiers())) {
                int kept = Modifier.STATIC | Modifier.FINAL;
                CHECKS.due(f.getName() + " is a constant", kept, f.getModifiers() & kept);
                CHECKS.due(f.getName(), 1, wanted.remove(f.getName() + "=" + f.getInt(null)) ? 1 : 0);
            } else {
                CHECKS.due(f.getName() + " is private", Modifier.PRIVATE, f.getModifiers() & Modifier.PRIVATE);
            }
        }
        CHECKS.due("missing: " + wanted, 0, wanted.size());
    }

    private static void constructors() {
        Constructor<?>[] all = RumourDesk.class.getDeclaredConstructors();
        CHECKS.due("constructors", 1, all.length);
        CHECKS.due("its parameters", 0, all[0].getParameterCount());
        CHECKS.due("it is public", Modifier.PUBLIC, all[0].getModifiers() & Modifier.PUBLIC);
    }
}
