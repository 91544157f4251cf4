import java.lang.reflect.InvocationTargetException;
import java.lang.reflect.Method;
import java.util.Arrays;
import java.util.Comparator;

/** What the tests share: comparing answers, telling the wrong ones, and short texts of a desk's state. */
final class Check {
    private static int wrong = 0;
    private static int made = 0;
    /** The named test that runs, if one does. */
    private static String running = "";

    private Check() {
    }

    /** A call whose answer or exception is looked at. */
    interface Call {
        long answer();
    }

    /**
     * Runs the named tests of a class and ends: its methods promiseN_case, N being the promise's number, and
     * terms_case. Finding them by their names leaves none out; a test that looks at no answer counts as wrong.
     */
    static void runAll(Class<?> tests) {
        Method[] methods = tests.getDeclaredMethods();
        Arrays.sort(methods, Comparator.comparing(Method::getName));
        for (Method method : methods) {
            if (method.getName().startsWith("promise") || method.getName().startsWith("terms")) {
                runOne(method);
            }
        }
        end();
    }

    private static void runOne(Method method) {
        int wrongBefore = wrong;
        int madeBefore = made;
        running = method.getName() + ": ";
        try {
            method.setAccessible(true);
            method.invoke(null);
        } catch (InvocationTargetException e) {
            tell("ended by " + e.getCause());
        } catch (IllegalAccessException e) {
            tell("could not be run: " + e);
        }
        if (made == madeBefore) {
            tell("looked at no answer");
        }
        running = "";
        System.out.println((wrong == wrongBefore ? "  ok   " : "  FAIL ") + method.getName());
    }

    static void due(String what, long want, long got) {
        made++;
        if (got != want) {
            tell(what + " answered " + got + ", due is " + want);
        }
    }

    static void due(String what, boolean want, boolean got) {
        due(what, want ? 1 : 0, got ? 1 : 0);
    }

    static void due(String what, String want, String got) {
        made++;
        if (!got.equals(want)) {
            tell(what + " answered '" + got + "', due is '" + want + "'");
        }
    }

    static void argument(String what, Call call) {
        due(what, "IllegalArgumentException", thrownBy(call));
    }

    static void state(String what, Call call) {
        due(what, "IllegalStateException", thrownBy(call));
    }

    /** Each call throws an IllegalArgumentException and changes nothing of the desk that the face shows. */
    static void refusedArgument(String what, PromiseDesk desk, Call... calls) {
        refused(what, "IllegalArgumentException", desk, calls);
    }

    /** Each call throws an IllegalStateException and changes nothing of the desk that the face shows. */
    static void refusedState(String what, PromiseDesk desk, Call... calls) {
        refused(what, "IllegalStateException", desk, calls);
    }

    private static void refused(String what, String exception, PromiseDesk desk, Call... calls) {
        String before = everything(desk);
        for (int i = 0; i < calls.length; i++) {
            String name = calls.length == 1 ? what : what + ", call " + i;
            due(name, exception, thrownBy(calls[i]));
            due(name + ": the desk behind it", before, everything(desk));
        }
    }

    static String thrownBy(Call call) {
        try {
            call.answer();
            return "nothing";
        } catch (RuntimeException e) {
            return e.getClass().getSimpleName();
        }
    }

    static void tell(String text) {
        wrong++;
        System.out.println(running + text);
    }

    static void end() {
        System.out.println(made + " answers looked at, " + wrong + " of them wrong");
        if (wrong != 0 || made == 0) {
            System.exit(1);
        }
    }

    /** OBJECTS, JOBS, pairs, items and HANDLERS, as count tells them. */
    static String counts(PromiseDesk desk) {
        StringBuilder text = new StringBuilder();
        for (int what = 0; what < 5; what++) {
            text.append(what == 0 ? "" : " ").append(desk.count(what));
        }
        return text.toString();
    }

    /** THE LOG as who:argument, a blank between pairs. */
    static String log(PromiseDesk desk) {
        StringBuilder text = new StringBuilder();
        for (int i = 0; desk.log(i, false) != -1000000; i++) {
            text.append(i == 0 ? "" : " ").append(desk.log(i, false)).append(':').append(desk.log(i, true));
        }
        return text.toString();
    }

    /** State and result of a PROMISE. */
    static String promise(PromiseDesk desk, int p) {
        return desk.state(p) + " " + desk.result(p);
    }

    /** The kind of an OBJECT and its parts. */
    static String parts(PromiseDesk desk, int v) {
        StringBuilder text = new StringBuilder().append(desk.kind(v)).append(':');
        for (int i = 0; i < desk.part(v, -1); i++) {
            text.append(' ').append(desk.part(v, i));
        }
        return text.toString();
    }

    /** All that the face shows of a desk but the functions that it keeps. */
    static String everything(PromiseDesk desk) {
        StringBuilder text = new StringBuilder(counts(desk)).append('|').append(log(desk)).append('|');
        for (int k = 0; k < desk.count(0); k++) {
            int v = -2 - k;
            int kind = desk.kind(v);
            text.append(kind).append('=');
            if (kind == 0) {
                text.append(promise(desk, v));
            } else if (kind > 2) {
                text.append(parts(desk, v));
            }
            text.append(';');
        }
        return text.toString();
    }
}
