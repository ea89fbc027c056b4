import java.lang.reflect.Constructor;
import java.lang.reflect.Field;
import java.lang.reflect.Member;
import java.lang.reflect.Method;
import java.lang.reflect.Modifier;
import java.util.Arrays;
import java.util.Set;
import java.util.TreeSet;
import java.util.stream.Collectors;

/** The class has the document's public face and shows nothing else. */
public final class FaceTest {
    private static final String BAD = " IllegalArgumentException";
    private static final String MISSING = " NoSuchElementException";
    private static final String NOT_NOW = " IllegalStateException";
    private static final String REFUSED = " UnsupportedOperationException";
    private static final String OUTSIDE = " IndexOutOfBoundsException";

    private static final Set<String> FACE = Set.of(
        "void topic(int,int,int,int,boolean)" + BAD + NOT_NOW,
        "int open(int,int)" + BAD + NOT_NOW + REFUSED,
        "int produce(int,int,int,int,int)" + BAD + MISSING + NOT_NOW + REFUSED,
        "void begin(int)" + BAD + MISSING + NOT_NOW + REFUSED,
        "int end(int,boolean)" + BAD + MISSING + NOT_NOW + REFUSED,
        "int fetch(int,int,boolean)" + BAD + MISSING + OUTSIDE,
        "int told(int,int,int)" + BAD + MISSING + OUTSIDE,
        "int compact(int)" + BAD + NOT_NOW,
        "int join(int,int,int)" + BAD + MISSING,
        "int leave(int,int)" + BAD + MISSING,
        "int owner(int,int)" + BAD + MISSING,
        "int poll(int,int,int,int)" + BAD + MISSING + NOT_NOW,
        "void keep(int,int,int,int,int)" + BAD + NOT_NOW,
        "int log(int,int)" + BAD,
        "int count(int)");

    private static int wrong;

    public static void main(String[] args) {
        Class<?> face = LogBroker.class;
        int modifiers = face.getModifiers();
        check(Modifier.isPublic(modifiers) && Modifier.isFinal(modifiers), "the class is public and final");
        Constructor<?>[] constructors = face.getDeclaredConstructors();
        check(constructors.length == 1 && Modifier.isPublic(constructors[0].getModifiers())
            && constructors[0].getParameterCount() == 0, "one public constructor without parameters");
        checkMethods(face);
        for (Field field : face.getDeclaredFields()) {
            check(isPrivate(field), "field " + field.getName() + " is private");
        }
        for (Class<?> inside : face.getDeclaredClasses()) {
            check(Modifier.isStatic(inside.getModifiers()) && !Modifier.isPublic(inside.getModifiers()),
                "class " + inside.getName() + " is static and not public");
        }
        if (wrong != 0) {
            System.exit(1);
        }
    }

    private static void checkMethods(Class<?> face) {
        Set<String> shown = new TreeSet<>();
        Set<String> names = new TreeSet<>();
        for (Method method : face.getDeclaredMethods()) {
            if (Modifier.isPublic(method.getModifiers())) {
                shown.add(signature(method));
                names.add(method.getName());
            }
        }
        check(shown.equals(FACE), "the public methods are the document's, not " + shown);
        for (Method method : face.getDeclaredMethods()) {
            if (!Modifier.isPublic(method.getModifiers())) {
                check(isPrivate(method), "method " + method.getName() + " is private");
                check(!names.contains(method.getName()), "no private method is named " + method.getName());
            }
        }
    }

    private static boolean isPrivate(Member member) {
        return Modifier.isPrivate(member.getModifiers()) || member.isSynthetic();
    }

    private static String signature(Method method) {
        return method.getReturnType() + " " + method.getName() + "("
            + Arrays.stream(method.getParameterTypes()).map(Class::getName).collect(Collectors.joining(",")) + ")"
            + Arrays.stream(method.getExceptionTypes()).map(e -> " " + e.getSimpleName()).collect(Collectors.joining());
    }

    private static void check(boolean holds, String what) {
        if (!holds) {
            wrong++;
            System.out.println("does not hold: " + what);
        }
    }
}
