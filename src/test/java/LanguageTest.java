import java.io.IOException;
import java.lang.reflect.Field;
import java.lang.reflect.Method;
import java.lang.reflect.Modifier;
import java.nio.file.Files;
import java.nio.file.Path;
import java.util.LinkedHashMap;
import java.util.Map;
import java.util.Set;
import java.util.TreeSet;
import java.util.regex.Matcher;
import java.util.regex.Pattern;

/**
 * LANGUAGE.md, rules 2 to 13, of the class as it is written; rule 1 is FaceTest's. The class uses
 * less than the rules allow, and it is held to that here: what it comes to use beyond it is to be
 * looked up in the rules first, and then allowed here.
 */
public final class LanguageTest {
    private static final Pattern METHOD = Pattern.compile(
        "(?ms)^    (?:public|private)(?: static)?(?: \\w+)? (\\w+)\\(([^)]*)\\) \\{\n(.*?)^    \\}$");

    private final String code;
    /** Each method's lines by its name; the constructor's too. */
    private final Map<String, String> bodies = new LinkedHashMap<>();

    private LanguageTest(String source) {
        code = source.replaceAll("(?s)/\\*.*?\\*/", "").replaceAll("//[^\n]*", "");
        Matcher method = METHOD.matcher(code);
        while (method.find()) {
            Due.holds("one method is called " + method.group(1), !bodies.containsKey(method.group(1)));
            bodies.put(method.group(1), method.group(3));
        }
    }

    public static void main(String[] args) throws IOException {
        LanguageTest test = new LanguageTest(Files.readString(Path.of("src/main/java/FlightBooks.java")));
        test.allMethodsAreSeen();
        test.oneClass();
        test.types();
        test.library();
        test.staticFields();
        test.words();
        test.divisorsAndLengths();
        test.recursionAndDepth();
        test.loops();
        test.sizes();
        test.objectsMade();
        Due.end();
    }

    /** No match of the pattern in the code, as the rule asks. */
    private void none(int rule, String pattern) {
        Matcher matcher = Pattern.compile(pattern).matcher(code);
        String found = matcher.find() ? matcher.group() : "";
        Due.holds("rule " + rule + ": nothing like " + pattern + ", but there is " + found, found.isEmpty());
    }

    private void allMethodsAreSeen() {
        Set<String> names = new TreeSet<>();
        names.add("FlightBooks");
        for (Method method : FlightBooks.class.getDeclaredMethods()) {
            names.add(method.getName());
        }
        Due.holds("the lines of each of " + names, names.equals(bodies.keySet()));
    }

    private void oneClass() {
        Due.is("rule 2: classes inside", FlightBooks.class.getDeclaredClasses().length, 0);
        Due.is("rule 2: classes", code.split("\\bclass\\b", -1).length - 1, 1);
        none(2, "->|::|\\b(interface|enum|record|package)\\b");
    }

    private void types() {
        for (Field field : FlightBooks.class.getDeclaredFields()) {
            Class<?> type = field.getType();
            Due.holds("rule 3: the type of " + field,
                type == int.class || type == int[].class || type == int[][].class);
        }
        for (Method method : FlightBooks.class.getDeclaredMethods()) {
            Class<?> type = method.getReturnType();
            Due.holds("rule 3: what is answered by " + method,
                type == int.class || type == boolean.class || type == void.class);
        }
        none(3, "\\b(double|float|long|char|var|String|StringBuilder|Integer|List|ArrayList)\\b|\"|'");
        none(3, "\\[\\]\\s*\\[\\]\\s*\\[\\]");
        none(3, "[^\\x00-\\x7F]");
    }

    private void library() {
        none(4, "\\bimport\\s+(?!java\\.util\\.Arrays;)");
        none(4, "\\b(?!Arrays\\.fill\\(|Math\\.max\\(|Math\\.min\\()[A-Z]\\w*\\.\\w+");
        none(4, "\\b[a-z]\\w*\\.(?!util\\.Arrays;|Arrays;)\\w+");
    }

    private void staticFields() {
        for (Field field : FlightBooks.class.getDeclaredFields()) {
            if (Modifier.isStatic(field.getModifiers())) {
                Due.holds("rule 5: " + field,
                    Modifier.isFinal(field.getModifiers()) && field.getType() == int.class);
            }
        }
        none(5, "\\bstatic\\s*\\{");
    }

    private void words() {
        none(6, "\\b(throw|throws|try|catch|finally|synchronized|assert|instanceof|null|volatile|native)\\b");
        none(6, "\\b(equals|hashCode|toString|this|super)\\b");
        none(6, "@");
    }

    private void divisorsAndLengths() {
        none(7, "[/%]");
        none(7, "\\bnew (?!int\\[(BOOKS|MOST)\\])");
        none(7, "\\bnew int\\[\\w+\\]\\[(?!MOST\\])");
    }

    private void recursionAndDepth() {
        for (String name : bodies.keySet()) {
            int depth = depth(name, 0);
            Due.holds("rules 8 and 11: " + name + " goes " + depth + " deep, at most eight", depth <= 8);
        }
    }

    /** The calls that stand open at once from a method on, the library's too; ends beyond eight. */
    private int depth(String name, int above) {
        int deepest = above + 1;
        if (above > 8 || !bodies.containsKey(name)) {
            return deepest;
        }
        Matcher call = Pattern.compile("\\b(\\w+)\\(").matcher(bodies.get(name));
        while (call.find()) {
            deepest = Math.max(deepest, depth(call.group(1), above + 1));
        }
        return deepest;
    }

    private void loops() {
        none(9, "\\b(while|do|goto|continue)\\b");
        none(9, "\\bfor \\((?!int (\\w+) = 0; \\1 < (\\w+|lineCounts\\[\\w+\\]); \\1\\+\\+\\) \\{)");
        for (Map.Entry<String, String> body : bodies.entrySet()) {
            Matcher counter = Pattern.compile("for \\(int (\\w+) ").matcher(body.getValue());
            while (counter.find()) {
                Matcher set = Pattern.compile("\\b" + counter.group(1) + " ?([-+*|&^]?=[^=]|\\+\\+|--)")
                    .matcher(body.getValue());
                int times = 0;
                while (set.find()) {
                    times++;
                }
                Due.is("rule 9: " + body.getKey() + " sets its counter in the loop's head alone", times, 2);
            }
        }
    }

    private void sizes() {
        for (Map.Entry<String, String> body : bodies.entrySet()) {
            Due.holds("rule 11: the length of " + body.getKey(), body.getValue().split("\n").length <= 60);
        }
        for (Method method : FlightBooks.class.getDeclaredMethods()) {
            Due.holds("rule 11: the parameters of " + method, method.getParameterCount() <= 7);
        }
        int fields = 0;
        for (Field field : FlightBooks.class.getDeclaredFields()) {
            fields += Modifier.isStatic(field.getModifiers()) ? 0 : 1;
        }
        Due.holds("rule 11: " + fields + " fields, at most twenty", fields <= 20);
    }

    private void objectsMade() {
        for (Map.Entry<String, String> body : bodies.entrySet()) {
            Due.holds("rule 12: no object is made by " + body.getKey(),
                !Pattern.compile("\\bnew\\b|\\bclone\\b|\\bcopyOf").matcher(body.getValue()).find());
        }
        Matcher call = Pattern.compile("(\\w+)\\(").matcher(bodies.getOrDefault("FlightBooks", ""));
        while (call.find()) {
            Due.holds("rule 12: the constructor calls " + call.group(1),
                call.group(1).equals("nearest") || call.group(1).equals("fill"));
        }
        none(13, "\\b(System|Thread|Random|Runtime|Object|Class)\\b");
    }
}
