import java.lang.reflect.InvocationTargetException;
import java.lang.reflect.Method;
import java.util.Arrays;
import java.util.Comparator;

/** Runs each test of a class that stands on words of the document, and tells those words if it fails. */
final class Sentences {
    private Sentences() {
    }

    static void run(Class<?> tests) throws IllegalAccessException {
        Method[] methods = tests.getDeclaredMethods();
        Arrays.sort(methods, Comparator.comparing(Method::getName));
        int ran = 0;
        for (Method method : methods) {
            Says says = method.getAnnotation(Says.class);
            if (says != null) {
                one(method, says);
                ran++;
            }
        }
        System.out.println(ran + " tests of a sentence each");
        Due.end();
    }

    private static void one(Method method, Says says) throws IllegalAccessException {
        int askedBefore = Due.asked();
        int wrongBefore = Due.wrong();
        try {
            method.invoke(null);
        } catch (InvocationTargetException thrown) {
            Due.holds(method.getName() + " threw " + thrown.getCause(), false);
        }
        Due.holds(method.getName() + " asks something", Due.asked() > askedBefore);
        if (Due.wrong() > wrongBefore) {
            String where = says.promise() == 0 ? "the section \"Terms\"" : "promise " + says.promise();
            System.out.println("^ " + method.getName() + ", of " + where + ": " + says.value());
        }
    }
}
