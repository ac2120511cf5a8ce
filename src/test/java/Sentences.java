import java.io.IOException;
import java.lang.reflect.InvocationTargetException;
import java.lang.reflect.Method;
import java.nio.file.Files;
import java.nio.file.Path;
import java.util.Arrays;
import java.util.Comparator;

/** Runs each test of a class that stands on words of the document, and tells those words if it fails. */
final class Sentences {
    private Sentences() {
    }

    static void run(Class<?> tests) throws IllegalAccessException, IOException {
        String document = Files.readString(Path.of("../shared/DOC.md"));
        Method[] methods = tests.getDeclaredMethods();
        Arrays.sort(methods, Comparator.comparing(Method::getName));
        int ran = 0;
        for (Method method : methods) {
            Says says = method.getAnnotation(Says.class);
            if (says != null) {
                Due.holds("the document says in " + where(says) + ": " + says.value(),
                    section(document, says).contains(says.value()));
                one(method, says);
                ran++;
            }
        }
        System.out.println(ran + " tests of a sentence each");
        Due.end();
    }

    private static String where(Says says) {
        return says.promise() == 0 ? "the section \"Terms\"" : "promise " + says.promise();
    }

    /** What stands below the heading; nothing, if the document has no such heading. */
    private static String section(String document, Says says) {
        String heading = says.promise() == 0 ? "## Terms\n" : "## Promise " + says.promise() + ": ";
        int start = document.indexOf(heading);
        if (start < 0) {
            return "";
        }
        int end = document.indexOf("\n## ", start);
        return document.substring(start, end < 0 ? document.length() : end);
    }

    private static void one(Method method, Says says) throws IllegalAccessException {
        int askedBefore = Due.asked();
        int wrongBefore = Due.wrong();
        try {
            method.invoke(null);
        } catch (InvocationTargetException thrown) {
            Due.holds(method.getName() + " threw " + thrown.getCause(), false);
        }
        Due.holds(method.getName() + " asks something", Due.asked() > askedBefore);
        if (Due.wrong() > wrongBefore) {
            System.out.println("^ " + method.getName() + ", of " + where(says) + ": " + says.value());
        }
    }
}
