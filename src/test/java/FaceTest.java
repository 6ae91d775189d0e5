import java.lang.reflect.Constructor;
import java.lang.reflect.Field;
import java.lang.reflect.Method;
import java.lang.reflect.Modifier;
import java.util.Arrays;
import java.util.Set;
import java.util.TreeSet;

/** The class shows the document's face and nothing beside it, by rule 1 of LANGUAGE.md. */
final class FaceTest {
    private static final Set<String> FACE = new TreeSet<>(Arrays.asList(
        "boolean put(long, int)", "int run()", "int waiting()", "int length()", "int response(int)",
        "boolean tear(int)", "int reset()", "int writes()", "int failures()", "int data(int, int)",
        "int tries(int)", "int share(int)", "int pending()", "int session()"));

    public static void main(String[] args) {
        Checks checks = new Checks();
        Class<?> card = AppletFirewall.class;
        checks.due("the class's modifiers", card.getModifiers(), Modifier.PUBLIC | Modifier.FINAL);
        checks.due("OFF", AppletFirewall.OFF, -1);
        checks.due("NONE", AppletFirewall.NONE, -2);
        checks.due("the methods", shownMethods(card).toString(), FACE.toString());
        checks.due("the constants", shownFields(card).toString(), "[int NONE, int OFF]");
        Constructor<?>[] constructors = card.getDeclaredConstructors();
        checks.due("the constructors", constructors.length, 1);
        checks.due("the constructor's parameters", constructors[0].getParameterCount(), 0);
        checks.due("the constructor's modifiers", constructors[0].getModifiers(), Modifier.PUBLIC);
        for (Class<?> inside : card.getDeclaredClasses()) {
            int modifiers = inside.getModifiers();
            checks.due(inside + " is static", Modifier.isStatic(modifiers), true);
            checks.due(inside + " is not shown", modifiers & (Modifier.PUBLIC | Modifier.PROTECTED), 0);
        }
        checks.due("private methods that bear the name of a public one", namesakes(card).toString(), "[]");
        checks.end();
    }

    private static Set<String> namesakes(Class<?> card) {
        Set<String> names = new TreeSet<>();
        for (Method m : card.getDeclaredMethods()) {
            for (Method shown : card.getMethods()) {
                if (Modifier.isPrivate(m.getModifiers()) && m.getName().equals(shown.getName())) {
                    names.add(m.getName());
                }
            }
        }
        return names;
    }

    private static Set<String> shownMethods(Class<?> card) {
        Set<String> shown = new TreeSet<>();
        for (Method m : card.getDeclaredMethods()) {
            String parameters = Arrays.toString(m.getParameterTypes()).replace('[', '(').replace(']', ')');
            if (!Modifier.isPrivate(m.getModifiers()) && !m.isSynthetic()) {
                shown.add(m.getReturnType() + " " + m.getName() + parameters);
            }
        }
        return shown;
    }

    private static Set<String> shownFields(Class<?> card) {
        Set<String> shown = new TreeSet<>();
        for (Field f : card.getDeclaredFields()) {
            if (!Modifier.isPrivate(f.getModifiers()) && !f.isSynthetic()) {
                shown.add(f.getType() + " " + f.getName());
            }
        }
        return shown;
    }
}
