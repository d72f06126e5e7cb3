import java.lang.reflect.Field;
import java.lang.reflect.Method;
import java.lang.reflect.Modifier;
import java.util.Set;
import java.util.TreeSet;

/** The public face, as the document tells it, and no other member that is not private. */
public final class FaceTest {
    private static final String[] METHODS = {
        "int canal(int,int,int,int)", "int ofReach(int,int)", "int fill(int,int)", "int rain(int)", "int gates()",
        "int open(int)", "int nights(int)", "int acts(int,int,int,int,int)", "int boat(int,int,int)",
        "int raise(int,int,int)", "int reading(int,int,boolean)", "int back(int)", "int limits(int)",
        "int kinds(int)", "int levels(int)", "long odds(int,int,int)", "int sheet(int,int,int)", "int lose(int)",
        "int put(int,int,int)", "long cell(int,int,int)", "int copy(int,int,int,int,int)", "int tell(int)",
        "int flatter(int)", "int as(int,int)", "int trace()", "int fault()", "int many(int)"};

    public static void main(String[] args) throws IllegalAccessException {
        constants();
        methods();
        fields();
        insideNames();
        Check.end();
    }

    private static void constants() {
        Check.due("UNKNOWN", WaterConsent.UNKNOWN, -1);
        Check.due("OUTSIDE", WaterConsent.OUTSIDE, -2);
        Check.due("STATE", WaterConsent.STATE, -3);
        Check.due("FULL", WaterConsent.FULL, -4);
        Check.due("NONE", WaterConsent.NONE, -9);
        Check.due("LOST", WaterConsent.LOST, Long.MIN_VALUE);
    }

    private static void methods() {
        Set<String> open = new TreeSet<>();
        Set<String> openNames = new TreeSet<>();
        for (Method m : WaterConsent.class.getDeclaredMethods()) {
            if (!Modifier.isPrivate(m.getModifiers()) && !m.isSynthetic()) {
                open.add(told(m) + (Modifier.isPublic(m.getModifiers()) ? "" : " not public"));
                openNames.add(m.getName());
            }
        }
        Set<String> due = new TreeSet<>(Set.of(METHODS));
        if (!open.equals(due)) {
            Check.due("methods " + open, 0, 1);
        }
        for (Method m : WaterConsent.class.getDeclaredMethods()) {
            if (Modifier.isPrivate(m.getModifiers()) && openNames.contains(m.getName())) {
                Check.due("a private method named " + m.getName(), 0, 1);
            }
        }
        Check.due("constructors", WaterConsent.class.getDeclaredConstructors().length, 1);
        Check.due("public constructors", WaterConsent.class.getConstructors().length, 1);
        Check.due("final", Modifier.isFinal(WaterConsent.class.getModifiers()) ? 1 : 0, 1);
    }

    private static String told(Method m) {
        StringBuilder text = new StringBuilder();
        text.append(m.getReturnType().getName()).append(' ').append(m.getName()).append('(');
        for (int i = 0; i < m.getParameterCount(); i++) {
            text.append(i == 0 ? "" : ",").append(m.getParameterTypes()[i].getName());
        }
        return text.append(')').toString();
    }

    private static void fields() {
        Set<String> constants = Set.of("UNKNOWN", "OUTSIDE", "STATE", "FULL", "NONE", "LOST");
        for (Field f : WaterConsent.class.getDeclaredFields()) {
            boolean isOpen = !Modifier.isPrivate(f.getModifiers());
            Check.due("private or a constant told: " + f.getName(), isOpen ? 1 : 0, constants.contains(f.getName()) ? 1 : 0);
            finalIfStatic(f);
        }
    }

    private static void finalIfStatic(Field f) {
        if (Modifier.isStatic(f.getModifiers()) && !Modifier.isFinal(f.getModifiers())) {
            Check.due("static, not final: " + f.getName(), 0, 1);
        }
    }

    private static void insideNames() {
        Class<?>[] inside = WaterConsent.class.getDeclaredClasses();
        Check.due("at most 12 classes", inside.length < 12 ? 1 : 0, 1);
        for (Class<?> c : inside) {
            int modifiers = c.getModifiers();
            boolean isHidden = !Modifier.isPublic(modifiers) && !Modifier.isProtected(modifiers);
            Check.due("static and not open: " + c.getName(), Modifier.isStatic(modifiers) && isHidden ? 1 : 0, 1);
            for (Field f : c.getDeclaredFields()) {
                finalIfStatic(f);
            }
        }
    }
}
