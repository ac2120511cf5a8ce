import java.lang.reflect.Constructor;
import java.lang.reflect.Field;
import java.lang.reflect.Method;
import java.lang.reflect.Modifier;
import java.util.Set;
import java.util.TreeSet;

/** The face of the class, as the document tells it and rule 1 of LANGUAGE.md asks. */
public final class FaceTest {
    private static final String FACE =
        "change/4 chart/2 columns/1 copy/2 enter/2 keep/2 lines/1 look/1 lose/1 note/4 "
        + "open/1 pass/1 read/2 shut/1 sluice/2 survey/2 tally/1 write/3";

    private FaceTest() {
    }

    public static void main(String[] args) {
        classAndConstructor();
        methods();
        fields();
        Due.end();
    }

    private static void classAndConstructor() {
        int modifiers = FlightBooks.class.getModifiers();
        Due.holds("public and final", Modifier.isPublic(modifiers) && Modifier.isFinal(modifiers));
        Constructor<?>[] constructors = FlightBooks.class.getDeclaredConstructors();
        Due.is("constructors", constructors.length, 1);
        Due.holds("it is public", Modifier.isPublic(constructors[0].getModifiers()));
        Due.holds("its parameter", onlyInts(constructors[0].getParameterTypes())
            && constructors[0].getParameterCount() == 1);
    }

    private static void methods() {
        Set<String> open = new TreeSet<>();
        Set<String> openNames = new TreeSet<>();
        for (Method method : FlightBooks.class.getDeclaredMethods()) {
            if (!Modifier.isPrivate(method.getModifiers())) {
                open.add(method.getName() + "/" + method.getParameterCount());
                openNames.add(method.getName());
                Due.holds(method + " is of ints", method.getReturnType() == int.class
                    && onlyInts(method.getParameterTypes())
                    && Modifier.isPublic(method.getModifiers())
                    && !Modifier.isStatic(method.getModifiers()));
            }
        }
        Due.holds("the face is " + open, String.join(" ", open).equals(FACE));
        for (Method method : FlightBooks.class.getDeclaredMethods()) {
            if (Modifier.isPrivate(method.getModifiers())) {
                Due.holds(method + " bears no public name", !openNames.contains(method.getName()));
            }
        }
    }

    private static void fields() {
        for (Field field : FlightBooks.class.getDeclaredFields()) {
            int modifiers = field.getModifiers();
            Due.holds(field + " is private", Modifier.isPrivate(modifiers));
            Due.holds(field + " is final, if static",
                !Modifier.isStatic(modifiers) || Modifier.isFinal(modifiers));
        }
    }

    private static boolean onlyInts(Class<?>[] types) {
        for (Class<?> type : types) {
            if (type != int.class) {
                return false;
            }
        }
        return true;
    }
}
