import java.lang.reflect.Constructor;
import java.lang.reflect.Field;
import java.lang.reflect.Method;
import java.lang.reflect.Modifier;
import java.util.Arrays;
import java.util.Set;
import java.util.TreeSet;

/** The public face, to the letter, and nothing else that can be seen from outside. */
public final class FaceTest {
    private static final Set<String> FACE = Set.of(
        "int feed(int, int, int, int, int)", "int back(int)", "int read()", "int place()", "boolean channels(int)",
        "int source(int)", "int notice(int, int, int, int, int, int, boolean)", "int over(int, int, int)",
        "boolean recorder(int, int, int, int)", "boolean clock(int)", "int sent(int, int, int)",
        "int says(int, int, int, int)", "int showing(int, int, int)", "int showings(int)", "int holds(int, int, int)",
        "int plan(int)", "int candidate(int, int)", "int count(int)");

    public static void main(String[] args) {
        Check.due("public and final", Modifier.PUBLIC | Modifier.FINAL, GuideDesk.class.getModifiers());
        Check.due("NONE", -1, GuideDesk.NONE);
        methods();
        fields();
        constructors();
        classesInside();
        Check.finish();
    }

    private static void methods() {
        Set<String> seen = new TreeSet<>();
        Set<String> hidden = new TreeSet<>();
        Set<String> names = new TreeSet<>();
        for (Method method : GuideDesk.class.getDeclaredMethods()) {
            if (Modifier.isPrivate(method.getModifiers())) {
                hidden.add(method.getName());
            } else {
                names.add(method.getName());
                String parameters = Arrays.toString(method.getParameterTypes());
                seen.add(method.getReturnType() + " " + method.getName() + "("
                    + parameters.substring(1, parameters.length() - 1) + ")");
                Check.due("public " + method.getName(), Modifier.PUBLIC, method.getModifiers());
            }
        }
        Check.due("the methods " + seen, true, seen.equals(FACE));
        hidden.retainAll(names);
        Check.due("private methods with public names", 0, hidden.size());
    }

    private static void fields() {
        for (Field field : GuideDesk.class.getDeclaredFields()) {
            int modifiers = field.getModifiers();
            int due = Modifier.PUBLIC | Modifier.STATIC | Modifier.FINAL;
            boolean good = field.getName().equals("NONE") ? modifiers == due : Modifier.isPrivate(modifiers);
            Check.due("field " + field.getName(), true, good);
            Check.due("static is final: " + field.getName(), true,
                !Modifier.isStatic(modifiers) || Modifier.isFinal(modifiers));
        }
    }

    private static void constructors() {
        Constructor<?>[] made = GuideDesk.class.getDeclaredConstructors();
        Check.due("constructors", 1, made.length);
        Check.due("its parameters", 0, made[0].getParameterCount());
        Check.due("it is public", Modifier.PUBLIC, made[0].getModifiers());
    }

    private static void classesInside() {
        Class<?>[] inside = GuideDesk.class.getDeclaredClasses();
        Check.due("at most some twelve classes", true, inside.length <= 12);
        for (Class<?> one : inside) {
            int modifiers = one.getModifiers();
            Check.due("static " + one.getName(), true, Modifier.isStatic(modifiers));
            Check.due("hidden " + one.getName(), false, Modifier.isPublic(modifiers) || Modifier.isProtected(modifiers));
            int own = 0;
            for (Field field : one.getDeclaredFields()) {
                own += Modifier.isStatic(field.getModifiers()) ? 0 : 1;
            }
            Check.due("some twenty fields in " + one.getName(), true, own <= 20);
        }
    }
}
