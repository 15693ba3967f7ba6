import java.lang.reflect.Constructor;
import java.lang.reflect.Field;
import java.lang.reflect.Method;
import java.lang.reflect.Modifier;
import java.util.Arrays;
import java.util.TreeSet;

/** The class has the document's face and no member besides that others can see. */
public final class FaceTest {
    private static final String ARGUMENT = " throws IllegalArgumentException";
    private static final String BOTH = " throws IllegalArgumentException IllegalStateException";

    private static final String[] FACE = {
        "public static final int NONE",
        "public static final int FULL",
        "public ClockPool(int)",
        "public int fetch(int)" + ARGUMENT,
        "public int release(int)" + BOTH,
        "public int get(int int)" + BOTH,
        "public int begin()",
        "public int set(int int int int)" + BOTH,
        "public int commit(int)" + BOTH,
        "public int abort(int)" + BOTH,
        "public int flush(int)" + ARGUMENT,
        "public boolean clean(int)" + ARGUMENT,
        "public int crash()",
        "public int disk(int int)" + ARGUMENT,
        "public int frame(int int)" + ARGUMENT,
        "public int log(int int)" + ARGUMENT,
        "public int count(int)" + ARGUMENT,
    };

    public static void main(String[] args) {
        TreeSet<String> due = new TreeSet<>(Arrays.asList(FACE));
        TreeSet<String> seen = seenMembers();
        Run.holds("the face is " + seen + ", due is " + due, seen.equals(due));
        int modifiers = ClockPool.class.getModifiers();
        Run.holds("public and final", Modifier.isPublic(modifiers) && Modifier.isFinal(modifiers));
        Run.holds("no package", ClockPool.class.getPackageName().isEmpty());
        for (Class<?> inside : ClockPool.class.getDeclaredClasses()) {
            checkInside(inside);
        }
        checkNames();
        Run.finish();
    }

    private static TreeSet<String> seenMembers() {
        TreeSet<String> seen = new TreeSet<>();
        for (Field field : ClockPool.class.getDeclaredFields()) {
            if (!Modifier.isPrivate(field.getModifiers())) {
                seen.add(Modifier.toString(field.getModifiers()) + " " + field.getType()
                        + " " + field.getName());
            }
        }
        for (Constructor<?> made : ClockPool.class.getDeclaredConstructors()) {
            if (!Modifier.isPrivate(made.getModifiers())) {
                seen.add(Modifier.toString(made.getModifiers())
                        + " ClockPool(" + names(made.getParameterTypes()) + ")");
            }
        }
        for (Method method : ClockPool.class.getDeclaredMethods()) {
            if (!Modifier.isPrivate(method.getModifiers())) {
                Class<?>[] thrown = method.getExceptionTypes();
                seen.add(Modifier.toString(method.getModifiers())
                        + " " + method.getReturnType() + " " + method.getName()
                        + "(" + names(method.getParameterTypes()) + ")"
                        + (thrown.length == 0 ? "" : " throws " + names(thrown)));
            }
        }
        return seen;
    }

    private static String names(Class<?>[] types) {
        StringBuilder names = new StringBuilder();
        for (Class<?> type : types) {
            names.append(names.length() == 0 ? "" : " ").append(type.getSimpleName());
        }
        return names.toString();
    }

    private static void checkInside(Class<?> inside) {
        int modifiers = inside.getModifiers();
        Run.holds(inside + " is private or package-visible, and static",
                !Modifier.isPublic(modifiers) && !Modifier.isProtected(modifiers)
                        && Modifier.isStatic(modifiers));
    }

    private static void checkNames() {
        TreeSet<String> open = new TreeSet<>();
        for (Method method : ClockPool.class.getDeclaredMethods()) {
            if (Modifier.isPublic(method.getModifiers())) {
                open.add(method.getName());
            }
        }
        for (Method method : ClockPool.class.getDeclaredMethods()) {
            if (!Modifier.isPublic(method.getModifiers())) {
                Run.holds("private " + method.getName() + " has a name of its own",
                        !open.contains(method.getName()));
            }
        }
        for (Field field : ClockPool.class.getDeclaredFields()) {
            if (Modifier.isStatic(field.getModifiers())) {
                Run.holds("static " + field.getName() + " is final",
                        Modifier.isFinal(field.getModifiers()));
            }
        }
    }
}
