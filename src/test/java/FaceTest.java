import java.lang.reflect.Constructor;
import java.lang.reflect.Field;
import java.lang.reflect.Member;
import java.lang.reflect.Method;
import java.lang.reflect.Modifier;
import java.util.Arrays;
import java.util.Set;
import java.util.TreeSet;
import java.util.stream.Collectors;

/** The class shows the document's public face and nothing else. */
public final class FaceTest {
    private static final Set<String> FACE = Set.of(
        "int object(boolean) UnsupportedOperationException",
        "int put(int, int, int) NoSuchElementException, IndexOutOfBoundsException, IllegalStateException",
        "int get(int, int) NoSuchElementException, IndexOutOfBoundsException",
        "int save() UnsupportedOperationException",
        "int restore(int) ",
        "int state(int, int) NoSuchElementException, IndexOutOfBoundsException",
        "int stateOf(int) IndexOutOfBoundsException",
        "int push() UnsupportedOperationException",
        "int pop() ",
        "int bytes(int, int, int) NoSuchElementException, IndexOutOfBoundsException",
        "int used() ",
        "int old(int) NoSuchElementException",
        "int deepest() ");

    private FaceTest() {
    }

    public static void main(String[] args) {
        Check check = new Check();
        check.due("public and final", SaveRestore.class.getModifiers(), Modifier.PUBLIC | Modifier.FINAL);
        Constructor<?>[] constructors = SaveRestore.class.getDeclaredConstructors();
        check.due("constructors", constructors.length, 1);
        check.due("the constructor", constructors[0].toString(), "public SaveRestore()");
        methods(check);
        fields(check);
        for (Class<?> inside : SaveRestore.class.getDeclaredClasses()) {
            check.due(inside + " is static", Modifier.isStatic(inside.getModifiers()), true);
            check.due(inside + " is not shown", isShown(inside.getModifiers()), false);
        }
        check.end();
    }

    private static void methods(Check check) {
        Set<String> shown = new TreeSet<>();
        Set<String> publicNames = new TreeSet<>();
        for (Method method : SaveRestore.class.getDeclaredMethods()) {
            if (!isPrivate(method)) {
                check.due(method + " is public and no more", method.getModifiers(), Modifier.PUBLIC);
                shown.add(text(method));
                publicNames.add(method.getName());
            }
        }
        check.due("the methods shown", shown, new TreeSet<>(FACE));
        for (Method method : SaveRestore.class.getDeclaredMethods()) {
            check.due(method + ": private with a public name",
                isPrivate(method) && publicNames.contains(method.getName()), false);
        }
    }

    private static void fields(Check check) {
        for (Field field : SaveRestore.class.getDeclaredFields()) {
            check.due(field + " is private", isPrivate(field), true);
            check.due(field + " is no static state",
                Modifier.isStatic(field.getModifiers()) && !Modifier.isFinal(field.getModifiers()), false);
        }
    }

    private static String text(Method method) {
        return method.getReturnType().getSimpleName() + " " + method.getName()
            + "(" + names(method.getParameterTypes()) + ") " + names(method.getExceptionTypes());
    }

    private static String names(Class<?>[] types) {
        return Arrays.stream(types).map(Class::getSimpleName).collect(Collectors.joining(", "));
    }

    private static boolean isPrivate(Member member) {
        return Modifier.isPrivate(member.getModifiers());
    }

    private static boolean isShown(int modifiers) {
        return Modifier.isPublic(modifiers) || Modifier.isProtected(modifiers);
    }
}
