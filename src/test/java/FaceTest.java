import java.io.IOException;
import java.lang.reflect.Constructor;
import java.lang.reflect.Field;
import java.lang.reflect.Method;
import java.lang.reflect.Modifier;
import java.nio.file.Files;
import java.nio.file.Path;
import java.util.Set;
import java.util.TreeSet;
import java.util.regex.Matcher;
import java.util.regex.Pattern;

/** The face of the class, and the words that LANGUAGE.md rules out; run from the project's folder. */
public final class FaceTest {
    private static final String FACE =
        "change/4 chart/2 columns/1 copy/2 enter/2 keep/2 lines/1 look/1 lose/1 note/4 "
        + "open/1 pass/1 read/2 shut/1 sluice/2 survey/2 tally/1 write/3";
    private static final Pattern RULED_OUT = Pattern.compile(
        "\\b(throw|try|catch|synchronized|assert|\\w+Exact|Random|System\\.(?!arraycopy)\\w+)\\b|->|::");

    private FaceTest() {
    }

    public static void main(String[] args) throws IOException {
        classAndConstructor();
        methods();
        fields();
        words();
        Due.end();
    }

    private static void classAndConstructor() {
        int modifiers = FlightBooks.class.getModifiers();
        Due.holds("public and final", Modifier.isPublic(modifiers) && Modifier.isFinal(modifiers));
        Constructor<?>[] constructors = FlightBooks.class.getDeclaredConstructors();
        Due.is("constructors", constructors.length, 1);
        Due.holds("it is public", Modifier.isPublic(constructors[0].getModifiers()));
        Due.holds("its parameter", onlyInts(constructors[0].getParameterTypes())
            && constructors[0].getParameterCount() == 1);
    }

    private static void methods() {
        Set<String> open = new TreeSet<>();
        Set<String> openNames = new TreeSet<>();
        for (Method method : FlightBooks.class.getDeclaredMethods()) {
            if (!Modifier.isPrivate(method.getModifiers())) {
                open.add(method.getName() + "/" + method.getParameterCount());
                openNames.add(method.getName());
                Due.holds(method + " is of ints", method.getReturnType() == int.class
                    && onlyInts(method.getParameterTypes())
                    && Modifier.isPublic(method.getModifiers())
                    && !Modifier.isStatic(method.getModifiers()));
            }
        }
        Due.holds("the face is " + open, String.join(" ", open).equals(FACE));
        for (Method method : FlightBooks.class.getDeclaredMethods()) {
            if (Modifier.isPrivate(method.getModifiers())) {
                Due.holds(method + " bears no public name", !openNames.contains(method.getName()));
            }
        }
    }

    private static void fields() {
        for (Field field : FlightBooks.class.getDeclaredFields()) {
            int modifiers = field.getModifiers();
            Due.holds(field + " is private", Modifier.isPrivate(modifiers));
            Due.holds(field + " is final, if static",
                !Modifier.isStatic(modifiers) || Modifier.isFinal(modifiers));
        }
    }

    private static void words() throws IOException {
        String source = Files.readString(Path.of("src/main/java/FlightBooks.java"));
        String code = source.replaceAll("(?s)/\\*.*?\\*/", "").replaceAll("//[^\n]*", "");
        Matcher found = RULED_OUT.matcher(code);
        Due.holds("no word that is ruled out", !found.find());
    }

    private static boolean onlyInts(Class<?>[] types) {
        for (Class<?> type : types) {
            if (type != int.class) {
                return false;
            }
        }
        return true;
    }
}
