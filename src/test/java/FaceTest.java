import java.lang.reflect.Constructor;
import java.lang.reflect.Field;
import java.lang.reflect.Member;
import java.lang.reflect.Method;
import java.lang.reflect.Modifier;
import java.util.Arrays;
import java.util.TreeSet;

/** The public face is the document's and nothing else (LANGUAGE.md, rules 1 and 5). */
public final class FaceTest {
    private static final String[] FACE = {
        "int promise[]", "int handler[int, int]", "int thenable[int, int, int, int, int]",
        "boolean settle[int, boolean, int]", "int later[int, boolean, int]", "int then[int, int, int, boolean]",
        "int lastly[int, int]", "int wrap[int]", "int broken[int]", "int item[int]", "int combine[int]",
        "int async[int, int]", "int jobs[int]", "int state[int]", "int result[int]", "int kind[int]",
        "int part[int, int]", "int log[int, boolean]", "int count[int]",
    };

    public static void main(String[] args) {
        Class<?> desk = PromiseDesk.class;
        Check.due("the class is public and final", true,
                Modifier.isPublic(desk.getModifiers()) && Modifier.isFinal(desk.getModifiers()));
        Check.due("constructors", 1, desk.getDeclaredConstructors().length);
        for (Constructor<?> made : desk.getDeclaredConstructors()) {
            Check.due("the constructor", "[]", Arrays.toString(made.getParameterTypes()));
            Check.due("the constructor is public", true, Modifier.isPublic(made.getModifiers()));
        }
        methods(desk);
        for (Field field : desk.getDeclaredFields()) {
            hidden(field);
            Check.due(field + " is final if static", true,
                    !Modifier.isStatic(field.getModifiers()) || Modifier.isFinal(field.getModifiers()));
        }
        for (Class<?> inside : desk.getDeclaredClasses()) {
            Check.due(inside + " is static", true, Modifier.isStatic(inside.getModifiers()));
            Check.due(inside + " is private", true, Modifier.isPrivate(inside.getModifiers()));
        }
        Check.due("classes, twelve at most", true, desk.getDeclaredClasses().length + 1 <= 12);
        Check.end();
    }

    private static void methods(Class<?> desk) {
        TreeSet<String> shown = new TreeSet<>();
        TreeSet<String> names = new TreeSet<>();
        for (Method method : desk.getDeclaredMethods()) {
            if (Modifier.isPublic(method.getModifiers())) {
                shown.add(method.getReturnType() + " " + method.getName() + params(method));
                names.add(method.getName());
            }
        }
        Check.due("public methods", new TreeSet<>(Arrays.asList(FACE)).toString(), shown.toString());
        for (Method method : desk.getDeclaredMethods()) {
            if (!Modifier.isPublic(method.getModifiers())) {
                hidden(method);
                Check.due(method + " bears a public one's name", false, names.contains(method.getName()));
            }
        }
    }

    private static String params(Method method) {
        return Arrays.toString(method.getParameterTypes());
    }

    private static void hidden(Member member) {
        Check.due(member + " is private", true, Modifier.isPrivate(member.getModifiers()));
    }
}
