import java.lang.reflect.Constructor;
import java.lang.reflect.Field;
import java.lang.reflect.Method;
import java.lang.reflect.Modifier;
import java.util.Set;
import java.util.TreeSet;

/** The document's public face, and nothing beside it that others could see. */
public final class FaceTest {
    private static final Checks CHECKS = new Checks("FaceTest");
    private static final String ARGUMENT = "IllegalArgumentException ";
    private static final String INDEX = "IndexOutOfBoundsException ";

    public static void main(String[] args) {
        CHECKS.due("modifiers", Modifier.PUBLIC | Modifier.FINAL, SightGraph.class.getModifiers());
        CHECKS.due("superclass, for what it would bring along", Object.class, SightGraph.class.getSuperclass());
        CHECKS.due("interfaces", 0, SightGraph.class.getInterfaces().length);
        CHECKS.due("package", "", SightGraph.class.getPackageName());
        CHECKS.due("members", face(), visibleMembers());
        CHECKS.end();
    }

    private static Set<String> face() {
        return new TreeSet<>(Set.of(
            "public SightGraph()",
            "public void begin(int ) " + ARGUMENT,
            "public int event(int int int ) " + ARGUMENT + INDEX,
            "public boolean ancestor(int int ) " + INDEX,
            "public boolean own(int int ) " + INDEX,
            "public boolean forked(int int ) " + ARGUMENT + INDEX,
            "public boolean sees(int int ) " + INDEX,
            "public int strength(int int ) " + INDEX,
            "public boolean strongly(int int ) " + INDEX,
            "public int round(int ) " + INDEX,
            "public boolean witness(int ) " + INDEX,
            "public int count(int ) " + ARGUMENT));
    }

    private static Set<String> visibleMembers() {
        Set<String> found = new TreeSet<>();
        for (Constructor<?> c : SightGraph.class.getDeclaredConstructors()) {
            found.add(Modifier.toString(c.getModifiers()) + " SightGraph(" + names(c.getParameterTypes()) + ")");
        }
        for (Field f : SightGraph.class.getDeclaredFields()) {
            if (!Modifier.isPrivate(f.getModifiers())) {
                found.add("field " + f.getName());
            }
        }
        for (Method m : SightGraph.class.getDeclaredMethods()) {
            if (!Modifier.isPrivate(m.getModifiers())) {
                found.add(Modifier.toString(m.getModifiers()) + " " + m.getReturnType().getSimpleName() + " "
                    + m.getName() + "(" + names(m.getParameterTypes()) + ") " + names(m.getExceptionTypes()));
            }
        }
        return found;
    }

    private static String names(Class<?>[] types) {
        StringBuilder all = new StringBuilder();
        for (Class<?> type : types) {
            all.append(type.getSimpleName()).append(' ');
        }
        return all.toString();
    }
}
