import java.lang.reflect.Constructor;
import java.lang.reflect.Field;
import java.lang.reflect.Member;
import java.lang.reflect.Method;
import java.lang.reflect.Modifier;
import java.util.Arrays;
import java.util.TreeSet;

/** The public face is the document's and nothing else (LANGUAGE.md, rules 1 and 5). */
public final class FaceTest {
    private static final String ARGUMENT = " IllegalArgumentException";
    private static final String STATE = " IllegalStateException";
    private static final String BOTH = ARGUMENT + STATE;
    private static final String[] FACE = {
        "int promise[]" + STATE, "int handler[int, int]" + BOTH, "int thenable[int, int, int, int, int]" + BOTH,
        "boolean settle[int, boolean, int]" + BOTH, "int later[int, boolean, int]" + BOTH,
        "int then[int, int, int, boolean]" + BOTH, "int lastly[int, int]" + BOTH, "int wrap[int]" + BOTH,
        "int broken[int]" + BOTH, "int item[int]" + BOTH, "int combine[int]" + BOTH, "int async[int, int]" + BOTH,
        "int jobs[int]" + STATE, "int state[int]" + ARGUMENT, "int result[int]" + ARGUMENT, "int kind[int]" + ARGUMENT,
        "int part[int, int]" + ARGUMENT, "int log[int, boolean]", "int count[int]" + ARGUMENT,
    };

    public static void main(String[] args) {
        Class<?> desk = PromiseDesk.class;
        Check.due("the class is public and final", true,
                Modifier.isPublic(desk.getModifiers()) && Modifier.isFinal(desk.getModifiers()));
        Check.due("constructors", 1, desk.getDeclaredConstructors().length);
        for (Constructor<?> made : desk.getDeclaredConstructors()) {
            Check.due("the constructor", "[]", Arrays.toString(made.getParameterTypes()));
            Check.due("the constructor is public", true, Modifier.isPublic(made.getModifiers()));
        }
        methods(desk);
        for (Field field : desk.getDeclaredFields()) {
            hidden(field);
            Check.due(field + " is final if static", true,
                    !Modifier.isStatic(field.getModifiers()) || Modifier.isFinal(field.getModifiers()));
        }
        Check.due("what it extends", "class java.lang.Object", desk.getSuperclass().toString());
        Check.due("what it implements", 0, desk.getInterfaces().length);
        for (Class<?> inside : desk.getDeclaredClasses()) {
            Check.due(inside + " is static", true, Modifier.isStatic(inside.getModifiers()));
            Check.due(inside + " is private", true, Modifier.isPrivate(inside.getModifiers()));
        }
        Check.due("classes, twelve at most", true, desk.getDeclaredClasses().length + 1 <= 12);
        Check.end();
    }

    private static void methods(Class<?> desk) {
        TreeSet<String> shown = new TreeSet<>();
        TreeSet<String> names = new TreeSet<>();
        for (Method method : desk.getDeclaredMethods()) {
            if (Modifier.isPublic(method.getModifiers())) {
                shown.add(method.getReturnType() + " " + method.getName() + params(method) + exceptions(method));
                Check.due(method + " is of the object", false, Modifier.isStatic(method.getModifiers()));
                names.add(method.getName());
            }
        }
        Check.due("public methods", new TreeSet<>(Arrays.asList(FACE)).toString(), shown.toString());
        for (Method method : desk.getDeclaredMethods()) {
            if (!Modifier.isPublic(method.getModifiers())) {
                hidden(method);
                Check.due(method + " bears a public one's name", false, names.contains(method.getName()));
            }
        }
    }

    private static String params(Method method) {
        return Arrays.toString(method.getParameterTypes());
    }

    private static String exceptions(Method method) {
        StringBuilder names = new StringBuilder();
        for (Class<?> exception : method.getExceptionTypes()) {
            names.append(' ').append(exception.getSimpleName());
        }
        return names.toString();
    }

    private static void hidden(Member member) {
        Check.due(member + " is private", true, Modifier.isPrivate(member.getModifiers()));
    }
}
