import java.lang.reflect.Constructor;
import java.lang.reflect.Field;
import java.lang.reflect.Method;
import java.lang.reflect.Modifier;
import java.util.Arrays;
import java.util.HashSet;
import java.util.Set;
import java.util.TreeSet;
import java.util.stream.Collectors;

/** The public face, by the document and by rule 1 of LANGUAGE.md. */
public final class FaceTest {
    private static final String[] FACE = {
        "int write(long,int) IllegalArgumentException,IllegalStateException",
        "int erase() ",
        "int read() IllegalArgumentException,IllegalStateException,UnsupportedOperationException",
        "int redexes() ",
        "int redex(int,int) IndexOutOfBoundsException",
        "int take(int) IndexOutOfBoundsException,UnsupportedOperationException",
        "int fair(int) IllegalArgumentException,UnsupportedOperationException",
        "int count(int) IndexOutOfBoundsException",
        "int letter(int) IndexOutOfBoundsException",
        "int keep(int) IndexOutOfBoundsException",
        "boolean equal(int) IndexOutOfBoundsException,NoSuchElementException",
        "boolean shows(int,int) IllegalArgumentException",
        "int explore(int,int,int) IllegalArgumentException",
        "int explored(int) IndexOutOfBoundsException"};

    private final Check check = new Check();

    public static void main(String[] args) throws Exception {
        FaceTest test = new FaceTest();
        test.methods();
        test.otherMembers();
        test.classesInside();
        test.check.end();
    }

    private static String names(Class<?>[] types) {
        return Arrays.stream(types).map(Class::getSimpleName).collect(Collectors.joining(","));
    }

    private void methods() {
        Set<String> found = new TreeSet<>();
        Set<String> names = new HashSet<>();
        for (Method method : MovingBoxes.class.getDeclaredMethods()) {
            if (!Modifier.isPrivate(method.getModifiers()) && !method.isSynthetic()) {
                check.due(method + " is public and no more", method.getModifiers(), Modifier.PUBLIC);
                names.add(method.getName());
                found.add(method.getReturnType().getSimpleName() + " " + method.getName()
                    + "(" + names(method.getParameterTypes()) + ") " + names(method.getExceptionTypes()));
            }
        }
        check.due("the public methods", found, new TreeSet<>(Arrays.asList(FACE)));
        for (Method method : MovingBoxes.class.getDeclaredMethods()) {
            boolean hides = Modifier.isPrivate(method.getModifiers()) && names.contains(method.getName());
            check.due(method + " bears a public name", hides, false);
        }
    }

    private void otherMembers() {
        check.due("the class", MovingBoxes.class.getModifiers(), Modifier.PUBLIC | Modifier.FINAL);
        Constructor<?>[] constructors = MovingBoxes.class.getDeclaredConstructors();
        check.due("one constructor", constructors.length, 1);
        check.due("it is public", constructors[0].getModifiers(), Modifier.PUBLIC);
        check.due("it takes nothing", constructors[0].getParameterCount(), 0);
        for (Field field : MovingBoxes.class.getDeclaredFields()) {
            boolean isPublic = field.getName().equals("NONE");
            check.due(field + " is private", Modifier.isPrivate(field.getModifiers()), !isPublic);
            if (isPublic) {
                check.due("NONE", field.getModifiers(), Modifier.PUBLIC | Modifier.STATIC | Modifier.FINAL);
                check.due("its type", field.getType(), int.class);
            }
        }
    }

    private void classesInside() {
        for (Class<?> one : MovingBoxes.class.getDeclaredClasses()) {
            int open = one.getModifiers() & (Modifier.PUBLIC | Modifier.PROTECTED);
            check.due(one + " is not open", open, 0);
            check.due(one + " is static", Modifier.isStatic(one.getModifiers()), true);
        }
    }
}
