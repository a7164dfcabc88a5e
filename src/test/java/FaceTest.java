import java.lang.reflect.Constructor;
import java.lang.reflect.Field;
import java.lang.reflect.Method;
import java.lang.reflect.Modifier;
import java.util.Arrays;
import java.util.Set;
import java.util.TreeSet;
import java.util.stream.Collectors;

/** The face is the document's, to the letter, and nothing else of the class can be seen from outside. */
public final class FaceTest {
    private static final Set<String> DUE = new TreeSet<>(Arrays.asList(
            "void low(float, float, float) throws IllegalArgumentException",
            "void high(float, float, float) throws IllegalArgumentException",
            "int add(int, int) throws IllegalArgumentException, IllegalStateException",
            "int addRow(int, float, float, float, int, int) throws IllegalArgumentException, IllegalStateException",
            "boolean move(int, float, float, float) throws IndexOutOfBoundsException, IllegalArgumentException",
            "int shift(int, int, float, float, float) throws IndexOutOfBoundsException, IllegalArgumentException",
            "void filter(int, int, int) throws IndexOutOfBoundsException",
            "int remove(int) throws IndexOutOfBoundsException",
            "int update() throws IllegalStateException",
            "int pair(int, int) throws IndexOutOfBoundsException",
            "boolean paired(int, int) throws IndexOutOfBoundsException",
            "int overlapping(int) throws IllegalArgumentException",
            "int meeting(int)",
            "int found(int) throws IndexOutOfBoundsException",
            "float where(int) throws IndexOutOfBoundsException",
            "int nearest()",
            "float corner(int, int) throws IndexOutOfBoundsException",
            "int about(int, int) throws IndexOutOfBoundsException",
            "int count(int) throws IndexOutOfBoundsException"));

    private static int wrong = 0;

    private static void require(boolean holds, String what) {
        if (!holds) {
            wrong++;
            System.out.println("face: " + what);
        }
    }

    private static String names(Class<?>[] types) {
        return Arrays.stream(types).map(Class::getSimpleName).collect(Collectors.joining(", "));
    }

    private static String told(Method method) {
        String thrown = names(method.getExceptionTypes());
        return method.getReturnType().getSimpleName() + " " + method.getName()
                + "(" + names(method.getParameterTypes()) + ")" + (thrown.isEmpty() ? "" : " throws " + thrown);
    }

    private static void checkMethods(Class<?> face) {
        Set<String> seen = new TreeSet<>();
        Set<String> publicNames = new TreeSet<>();
        for (Method method : face.getDeclaredMethods()) {
            if (Modifier.isPublic(method.getModifiers())) {
                require(!Modifier.isStatic(method.getModifiers()), method + " is static");
                seen.add(told(method));
                publicNames.add(method.getName());
            }
        }
        require(seen.equals(DUE), "the public methods are " + seen + ", due are " + DUE);
        for (Method method : face.getDeclaredMethods()) {
            if (!Modifier.isPublic(method.getModifiers())) {
                require(Modifier.isPrivate(method.getModifiers()), method + " is neither public nor private");
                require(!publicNames.contains(method.getName()), method + " bears the name of a public method");
            }
        }
    }

    private static void checkFields(Class<?> face) throws IllegalAccessException {
        for (Field field : face.getDeclaredFields()) {
            int modifiers = field.getModifiers();
            if (field.getName().equals("NONE")) {
                require(Modifier.isPublic(modifiers) && Modifier.isStatic(modifiers) && Modifier.isFinal(modifiers)
                        && field.getType() == int.class && field.getInt(null) == -1, "NONE is not public static final int -1");
            } else {
                require(Modifier.isPrivate(modifiers), field + " is not private");
            }
            require(!Modifier.isStatic(modifiers) || Modifier.isFinal(modifiers), field + " is static and not final");
        }
        require(Arrays.stream(face.getDeclaredFields()).anyMatch(f -> f.getName().equals("NONE")), "there is no NONE");
    }

    private static void checkClasses(Class<?> face) {
        for (Class<?> inside : face.getDeclaredClasses()) {
            int modifiers = inside.getModifiers();
            require(Modifier.isStatic(modifiers) && !Modifier.isPublic(modifiers) && !Modifier.isProtected(modifiers),
                    inside + " is not a static class that is private or package-visible");
        }
    }

    public static void main(String[] args) throws IllegalAccessException {
        Class<?> face = PairFinder.class;
        int modifiers = face.getModifiers();
        require(Modifier.isPublic(modifiers) && Modifier.isFinal(modifiers), "the class is not public and final");
        Constructor<?>[] constructors = face.getDeclaredConstructors();
        require(constructors.length == 1 && Modifier.isPublic(constructors[0].getModifiers())
                && constructors[0].getParameterCount() == 0, "the constructor is not PairFinder() alone");
        checkMethods(face);
        checkFields(face);
        checkClasses(face);
        System.out.println(wrong == 0 ? "the face is as due" : wrong + " parts of the face are not as due");
        if (wrong != 0) {
            System.exit(1);
        }
    }
}
