import java.lang.reflect.Constructor;
import java.lang.reflect.Field;
import java.lang.reflect.Method;
import java.lang.reflect.Modifier;
import java.util.Set;
import java.util.TreeSet;

/** The class shows exactly the face of the document, and nothing else that is not private. */
public final class FaceTest {
    private static final Set<String> FACE = Set.of(
            "field public static final int NONE",
            "constructor public ()",
            "method public int code(int, int, int)",
            "method public int terminal()",
            "method public int start(int, int, long)",
            "method public int event(int, int, int)",
            "method public int link(int, int)",
            "method public int back(int, int, int)",
            "method public int area(int)",
            "method public int storage(int, int)",
            "method public int limit(int, int)",
            "method public int tick(long)",
            "method public int purge(int)",
            "method public int handle(int, int, int)",
            "method public int condition(int, int)",
            "method public int state(int)",
            "method public int told(int, int)",
            "method public int owner(int)",
            "method public int count(int)");

    private FaceTest() {
    }

    public static void main(String[] args) {
        Due due = new Due("face");
        due.same("modifiers", Modifier.toString(TaskStates2.class.getModifiers()), "public final");
        due.same("members", shownMembers().toString(), new TreeSet<>(FACE).toString());
        due.same("private methods with a public name", sharedNames().toString(), "[]");
        due.same("static fields that change", changingStatics().toString(), "[]");
        due.is("NONE", TaskStates2.NONE, -1);
        due.end();
    }

    private static Set<String> shownMembers() {
        Set<String> shown = new TreeSet<>();
        for (Field f : TaskStates2.class.getDeclaredFields()) {
            if (!Modifier.isPrivate(f.getModifiers())) {
                shown.add("field " + Modifier.toString(f.getModifiers()) + " " + f.getType() + " " + f.getName());
            }
        }
        for (Constructor<?> c : TaskStates2.class.getDeclaredConstructors()) {
            if (!Modifier.isPrivate(c.getModifiers())) {
                shown.add("constructor " + Modifier.toString(c.getModifiers()) + " " + list(c.getParameterTypes()));
            }
        }
        for (Method m : TaskStates2.class.getDeclaredMethods()) {
            if (!Modifier.isPrivate(m.getModifiers())) {
                shown.add("method " + Modifier.toString(m.getModifiers()) + " " + m.getReturnType() + " "
                        + m.getName() + list(m.getParameterTypes()));
            }
        }
        return shown;
    }

    private static String list(Class<?>[] types) {
        StringBuilder text = new StringBuilder("(");
        for (int i = 0; i < types.length; i++) {
            text.append(i == 0 ? "" : ", ").append(types[i]);
        }
        return text.append(")").toString();
    }

    private static Set<String> sharedNames() {
        Set<String> open = new TreeSet<>();
        Set<String> hidden = new TreeSet<>();
        for (Method m : TaskStates2.class.getDeclaredMethods()) {
            (Modifier.isPublic(m.getModifiers()) ? open : hidden).add(m.getName());
        }
        for (Class<?> inside : TaskStates2.class.getDeclaredClasses()) {
            for (Method m : inside.getDeclaredMethods()) {
                hidden.add(m.getName());
            }
        }
        hidden.retainAll(open);
        return hidden;
    }

    private static Set<String> changingStatics() {
        Set<String> found = new TreeSet<>();
        for (Field f : TaskStates2.class.getDeclaredFields()) {
            if (Modifier.isStatic(f.getModifiers()) && !Modifier.isFinal(f.getModifiers())) {
                found.add(f.getName());
            }
        }
        return found;
    }
}
