import java.lang.reflect.Field;
import java.lang.reflect.Method;
import java.lang.reflect.Modifier;
import java.util.Arrays;
import java.util.List;
import java.util.TreeSet;
import java.util.stream.Collectors;

/** The public face: its constants, constructor and methods, each with the exceptions it names, and no more. */
public final class FaceTest {
    private static final List<String> METHODS = List.of(
            "int add(int,int) IllegalArgumentException,IllegalStateException",
            "int board(int,int) IllegalArgumentException,IllegalStateException",
            "void begin() IllegalStateException",
            "void clear() ",
            "int cut(int) IllegalStateException,IndexOutOfBoundsException,NoSuchElementException",
            "int undo() NoSuchElementException",
            "int play() IllegalStateException",
            "int turn() ",
            "int taken(int) IndexOutOfBoundsException",
            "int left() ",
            "int strings(int) IndexOutOfBoundsException",
            "int margin() IllegalStateException",
            "int good() IllegalStateException",
            "int nim() IllegalStateException",
            "int mad() IllegalStateException",
            "int groups() ",
            "int group(int) IndexOutOfBoundsException",
            "int show() ",
            "int at(int) IndexOutOfBoundsException");

    public static void main(String[] args) {
        Class<?> face = CoinStrings.class;
        Check.same("modifiers of the class", Modifier.toString(face.getModifiers()), "public final");
        Check.same("how many constructors", face.getDeclaredConstructors().length, 1);
        Check.same("the constructor", Modifier.toString(face.getDeclaredConstructors()[0].getModifiers()), "public");
        methods(face);
        privateMethods(face);
        fields(face);
        classesInside(face);
        Check.same("LOONY", CoinStrings.LOONY, -1);
        Check.same("LOOP", CoinStrings.LOOP, 100);
        Check.end();
    }

    private static void methods(Class<?> face) {
        TreeSet<String> found = new TreeSet<>();
        for (Method method : face.getDeclaredMethods()) {
            if (!Modifier.isPrivate(method.getModifiers())) {
                Check.same("modifiers of " + method.getName(), Modifier.toString(method.getModifiers()), "public");
                found.add(method.getReturnType().getSimpleName() + " " + method.getName()
                        + "(" + names(method.getParameterTypes()) + ") " + names(method.getExceptionTypes()));
            }
        }
        Check.same("the methods", found, new TreeSet<>(METHODS));
    }

    private static void privateMethods(Class<?> face) {
        TreeSet<String> names = new TreeSet<>();
        for (Method method : face.getMethods()) {
            names.add(method.getName());
        }
        for (Method method : face.getDeclaredMethods()) {
            if (Modifier.isPrivate(method.getModifiers())) {
                Check.same("whether a public method has the name " + method.getName(),
                        names.contains(method.getName()), false);
            }
        }
    }

    private static void classesInside(Class<?> face) {
        for (Class<?> inside : face.getDeclaredClasses()) {
            int modifiers = inside.getModifiers();
            boolean open = Modifier.isPublic(modifiers) || Modifier.isProtected(modifiers);
            Check.same("whether others see " + inside.getSimpleName(), open, false);
            Check.same("whether it is static: " + inside.getSimpleName(), Modifier.isStatic(modifiers), true);
        }
    }

    private static void fields(Class<?> face) {
        TreeSet<String> found = new TreeSet<>();
        for (Field field : face.getDeclaredFields()) {
            if (!Modifier.isPrivate(field.getModifiers())) {
                found.add(Modifier.toString(field.getModifiers()) + " " + field.getType() + " " + field.getName());
            }
        }
        Check.same("the constants", found,
                new TreeSet<>(List.of("public static final int LOONY", "public static final int LOOP")));
    }

    private static String names(Class<?>[] types) {
        return Arrays.stream(types).map(Class::getSimpleName).collect(Collectors.joining(","));
    }
}
