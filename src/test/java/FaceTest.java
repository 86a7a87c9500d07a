import java.lang.reflect.Constructor;
import java.lang.reflect.Field;
import java.lang.reflect.Method;
import java.lang.reflect.Modifier;
import java.util.Set;
import java.util.TreeSet;

/** The class has the document's face, and nothing else that is not private. */
final class FaceTest {
    private static final String[] METHODS = {
        "int addCutter(int,int,int) IllegalArgumentException IllegalStateException",
        "int cutterFor(int,int) IllegalArgumentException",
        "int stage(int,int,int) IllegalArgumentException IllegalStateException",
        "int scrap()",
        "int make(int) IllegalStateException",
        "int numerator(int) IndexOutOfBoundsException",
        "int denominator(int) IndexOutOfBoundsException",
        "int turned(int,int) IndexOutOfBoundsException IllegalArgumentException",
        "int turnedByWalk(int,int) IndexOutOfBoundsException IllegalArgumentException",
        "int order(int) IndexOutOfBoundsException IllegalStateException",
        "int pass(int) IllegalArgumentException",
        "int time()",
        "int waiting()",
        "int cutterOn(int) IndexOutOfBoundsException",
        "int ticksLeft(int) IndexOutOfBoundsException",
        "int gearsLeft(int) IndexOutOfBoundsException",
        "int doneAt(int) IndexOutOfBoundsException",
        "boolean test(int,int,int) IndexOutOfBoundsException IllegalArgumentException"
            + " IllegalStateException",
        "int wear(int,int) IndexOutOfBoundsException",
        "int claims(int) IndexOutOfBoundsException",
        "int leastNew(int,int,int) IllegalArgumentException",
    };

    public static void main(String[] args) {
        Check check = new Check("FaceTest");
        check.same("NONE", -1, Cogwright.NONE);
        check.holds("the class is public and final", isPublicAnd(Modifier.FINAL, Cogwright.class));
        constructors(check);
        methods(check);
        fields(check);
        classesInside(check);
        check.end();
    }

    private static boolean isPublicAnd(int modifier, Class<?> type) {
        return (type.getModifiers() & (Modifier.PUBLIC | modifier)) == (Modifier.PUBLIC | modifier);
    }

    private static void constructors(Check check) {
        Constructor<?>[] found = Cogwright.class.getDeclaredConstructors();
        check.same("constructors", 1, found.length);
        check.same("their parameters", 0, found[0].getParameterCount());
        check.holds("they are public", Modifier.isPublic(found[0].getModifiers()));
    }

    private static void methods(Check check) {
        Set<String> due = new TreeSet<>(Set.of(METHODS));
        Set<String> names = new TreeSet<>();
        Set<String> found = new TreeSet<>();
        for (Method method : Cogwright.class.getDeclaredMethods()) {
            if (!Modifier.isPrivate(method.getModifiers())) {
                found.add(face(method));
                names.add(method.getName());
                check.same(method.getName() + "'s modifiers",
                        Modifier.PUBLIC, method.getModifiers());
            }
        }
        check.holds("methods " + found + ", due " + due, found.equals(due));
        for (Method method : Cogwright.class.getDeclaredMethods()) {
            check.holds("a private " + method.getName(),
                    Modifier.isPublic(method.getModifiers()) || !names.contains(method.getName()));
        }
    }

    private static String face(Method method) {
        StringBuilder text = new StringBuilder();
        text.append(method.getReturnType()).append(' ').append(method.getName()).append('(');
        for (int i = 0; i < method.getParameterCount(); i++) {
            text.append(i == 0 ? "" : ",").append(method.getParameterTypes()[i]);
        }
        text.append(')');
        for (Class<?> thrown : method.getExceptionTypes()) {
            text.append(' ').append(thrown.getSimpleName());
        }
        return text.toString();
    }

    private static void fields(Check check) {
        for (Field field : Cogwright.class.getDeclaredFields()) {
            int modifiers = field.getModifiers();
            check.holds("field " + field.getName() + " is private, or NONE",
                    Modifier.isPrivate(modifiers) || field.getName().equals("NONE"));
            check.holds("static field " + field.getName() + " is final",
                    !Modifier.isStatic(modifiers) || Modifier.isFinal(modifiers));
        }
    }

    private static void classesInside(Check check) {
        Class<?>[] inside = Cogwright.class.getDeclaredClasses();
        check.holds("twelve classes at the most", inside.length <= 11);
        for (Class<?> type : inside) {
            int modifiers = type.getModifiers();
            check.holds(type.getName() + " is static and not public",
                    Modifier.isStatic(modifiers) && !Modifier.isPublic(modifiers)
                            && !Modifier.isProtected(modifiers));
        }
    }
}
