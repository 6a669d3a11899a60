import java.lang.reflect.Constructor;
import java.lang.reflect.Field;
import java.lang.reflect.Method;
import java.lang.reflect.Modifier;
import java.util.Arrays;
import java.util.TreeSet;
import java.util.stream.Collectors;

/** The document's public face: its constructor and methods with their exceptions, and no other open member. */
public final class FaceTest {
    private static final String[] FACE = {
        "int addRoute(int,int,int,int) IllegalArgumentException,IllegalStateException",
        "int route(int) IllegalArgumentException,NoSuchElementException",
        "int routeByComparing(int) IllegalArgumentException,NoSuchElementException",
        "int setContract(int,int,int) IndexOutOfBoundsException,IllegalArgumentException",
        "int setAnswer(int,int) IndexOutOfBoundsException,IllegalArgumentException",
        "char broken(int) IndexOutOfBoundsException",
        "int begin(int,int,int,int) IndexOutOfBoundsException,IllegalArgumentException,IllegalStateException",
        "int setShare(int,int) IndexOutOfBoundsException,IllegalArgumentException,IllegalStateException",
        "int promote(int) IndexOutOfBoundsException,IllegalStateException",
        "int takeBack(int) IndexOutOfBoundsException,IllegalStateException",
        "boolean hasCanary(int) IndexOutOfBoundsException",
        "int faults(int) IndexOutOfBoundsException,NoSuchElementException",
        "int addPlan(int,int,int) IllegalArgumentException,IllegalStateException",
        "int addCaller(int) IndexOutOfBoundsException,IllegalStateException",
        "int setPlan(int,int) IndexOutOfBoundsException",
        "int tokens(int) IndexOutOfBoundsException",
        "int ticksUntil(int,int) IndexOutOfBoundsException,NoSuchElementException",
        "long bill(int) IndexOutOfBoundsException",
        "long billByLog(int) IndexOutOfBoundsException",
        "char call(int,int,int) IndexOutOfBoundsException,IllegalArgumentException",
        "int pass(int) IllegalArgumentException",
        "int calls() ",
        "int count(int,char) IndexOutOfBoundsException,IllegalArgumentException",
        "boolean isUndone(int) IndexOutOfBoundsException",
        "int greatest() NoSuchElementException",
        "float canaryShare() ArithmeticException",
        "double meanCost() ArithmeticException",
    };

    public static void main(String[] args) {
        Class<?> program = CallGateway.class;
        Check.same("the class is public and final", Modifier.PUBLIC | Modifier.FINAL, program.getModifiers());
        Check.same("constructors", "[public CallGateway()]", Arrays.toString(program.getDeclaredConstructors()));
        Check.same("methods", new TreeSet<>(Arrays.asList(FACE)).toString(), openMethodsOf(program));
        for (Field field : program.getDeclaredFields()) {
            Check.same(field.getName() + " is private", true, Modifier.isPrivate(field.getModifiers()));
        }
        for (Method method : program.getDeclaredMethods()) {
            Check.same(method + " is private or the face's", Modifier.isPublic(method.getModifiers()),
                    bearsANameOfTheFace(method));
        }
        for (Class<?> inside : program.getDeclaredClasses()) {
            Check.same(inside + " is private and static", Modifier.PRIVATE | Modifier.STATIC,
                    inside.getModifiers() & (Modifier.PRIVATE | Modifier.STATIC));
            dueClosed(inside);
        }
        Check.end();
    }

    /** LANGUAGE.md, rule 1, holds for the members of the classes inside too. */
    private static void dueClosed(Class<?> inside) {
        for (Field field : inside.getDeclaredFields()) {
            Check.same(field + " is private", true, Modifier.isPrivate(field.getModifiers()));
        }
        for (Constructor<?> constructor : inside.getDeclaredConstructors()) {
            Check.same(constructor + " is private", true, Modifier.isPrivate(constructor.getModifiers()));
        }
        for (Method method : inside.getDeclaredMethods()) {
            Check.same(method + " is private", true, Modifier.isPrivate(method.getModifiers()));
            Check.same(method + " bears a name of the face", false, bearsANameOfTheFace(method));
        }
    }

    private static boolean bearsANameOfTheFace(Method method) {
        return Arrays.stream(FACE).anyMatch(line -> line.contains(" " + method.getName() + "("));
    }

    private static String openMethodsOf(Class<?> program) {
        return Arrays.stream(program.getDeclaredMethods()).filter(m -> !Modifier.isPrivate(m.getModifiers()))
                .map(m -> m.getReturnType() + " " + m.getName() + "(" + namesOf(m.getParameterTypes()) + ") "
                        + namesOf(m.getExceptionTypes()))
                .collect(Collectors.toCollection(TreeSet::new)).toString();
    }

    private static String namesOf(Class<?>[] types) {
        return Arrays.stream(types).map(Class::getSimpleName).collect(Collectors.joining(","));
    }
}
