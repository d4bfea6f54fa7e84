import java.lang.reflect.Constructor;
import java.lang.reflect.Field;
import java.lang.reflect.Method;
import java.lang.reflect.Modifier;
import java.util.ArrayList;
import java.util.Collections;
import java.util.HashSet;
import java.util.List;
import java.util.Set;

/** The class has the face of the document, member for member, and no other. */
final class FaceTest {
    private static final String[] FACE = {
        "int addJob() IllegalStateException",
        "int setMachines(int) IllegalArgumentException",
        "int setTime(int,int,int) IndexOutOfBoundsException,IllegalArgumentException",
        "int time(int,int) IndexOutOfBoundsException",
        "int jobs() ",
        "int machines() ",
        "int jobAt(int) IndexOutOfBoundsException",
        "int move(int,int) IndexOutOfBoundsException",
        "int makespanIfMoved(int,int) IndexOutOfBoundsException",
        "int orderByRule() IllegalStateException",
        "int orderByInsertion() ",
        "int improve() ",
        "int makespan(int) IllegalArgumentException",
        "int begin(int,int,int) IllegalArgumentException,IndexOutOfBoundsException",
        "int totalTime() ",
        "int head(int,int) IndexOutOfBoundsException",
        "int tail(int,int) IndexOutOfBoundsException",
        "boolean isCritical(int,int) IndexOutOfBoundsException",
        "int idle(int,int) IllegalArgumentException,IndexOutOfBoundsException",
        "int machineBound(int) IndexOutOfBoundsException",
        "int pairBound(int,int) IndexOutOfBoundsException,IllegalArgumentException",
        "int best(int) IllegalArgumentException",
        "int bestAt(int,int) IllegalArgumentException,IndexOutOfBoundsException",
        "int bestOrders(int) IllegalArgumentException",
        "double gap() ",
    };

    public static void main(String[] args) {
        Check check = new Check("FaceTest");
        Class<?> type = Flowforge.class;
        check.same("public", true, Modifier.isPublic(type.getModifiers()));
        check.same("final", true, Modifier.isFinal(type.getModifiers()));
        check.same("superclass", Object.class, type.getSuperclass());
        check.same("interfaces", 0, type.getInterfaces().length);
        Constructor<?>[] constructors = type.getDeclaredConstructors();
        check.same("constructors", 1, constructors.length);
        check.same("constructor is public", true, Modifier.isPublic(constructors[0].getModifiers()));
        check.same("constructor's parameters", 0, constructors[0].getParameterCount());
        check.same("constructor's exceptions", 0, constructors[0].getExceptionTypes().length);

        List<String> want = new ArrayList<>(List.of(FACE));
        List<String> got = new ArrayList<>();
        Set<String> publicNames = new HashSet<>();
        for (Method method : type.getDeclaredMethods()) {
            if (!Modifier.isPrivate(method.getModifiers())) {
                got.add(told(method));
                publicNames.add(method.getName());
                check.same(method.getName() + " is public", true, Modifier.isPublic(method.getModifiers()));
                check.same(method.getName() + " is static", false, Modifier.isStatic(method.getModifiers()));
            }
        }
        Collections.sort(want);
        Collections.sort(got);
        check.same("methods", want, got);
        for (Method method : type.getDeclaredMethods()) {
            if (Modifier.isPrivate(method.getModifiers())) {
                check.same(method.getName() + " bears a public name", false, publicNames.contains(method.getName()));
            }
        }
        for (Field field : type.getDeclaredFields()) {
            int modifiers = field.getModifiers();
            check.same(field.getName() + " is private", true, Modifier.isPrivate(modifiers));
            check.same(field.getName() + " is static and changes", false,
                Modifier.isStatic(modifiers) && !Modifier.isFinal(modifiers));
        }
        check.end();
    }

    private static String told(Method method) {
        List<String> parameters = new ArrayList<>();
        for (Class<?> parameter : method.getParameterTypes()) {
            parameters.add(parameter.getSimpleName());
        }
        List<String> exceptions = new ArrayList<>();
        for (Class<?> exception : method.getExceptionTypes()) {
            exceptions.add(exception.getSimpleName());
        }
        return method.getReturnType().getSimpleName() + " " + method.getName()
            + "(" + String.join(",", parameters) + ") " + String.join(",", exceptions);
    }
}
