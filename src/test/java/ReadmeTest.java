import java.io.IOException;
import java.lang.reflect.InvocationTargetException;
import java.lang.reflect.Method;
import java.nio.file.Files;
import java.nio.file.Path;
import java.util.List;
import java.util.Set;
import java.util.TreeSet;
import java.util.regex.Matcher;
import java.util.regex.Pattern;
import java.util.stream.Collectors;
import java.util.stream.Stream;

/** What README.md says is so: its example's answers, its table of calls, its table of tests. */
public final class ReadmeTest {
    private static final Pattern MADE = Pattern.compile("FlightBooks flight = new FlightBooks\\((\\d+)\\);.*");
    private static final Pattern CALL = Pattern.compile("flight\\.(\\w+)\\(([-\\d, ]+)\\); +// (-?\\d+)\\b.*");
    private static final Pattern FACE = Pattern.compile("public int (\\w+\\([^)]*\\));");

    private ReadmeTest() {
    }

    public static void main(String[] args) throws IOException, ReflectiveOperationException {
        String readme = Files.readString(Path.of("README.md"));
        example(between(readme, "```java\n", "```"));
        calls(readme);
        tests(readme);
        Due.end();
    }

    private static String between(String text, String start, String end) {
        int from = text.indexOf(start) + start.length();
        return text.substring(from, text.indexOf(end, from));
    }

    private static void example(String block) throws ReflectiveOperationException {
        FlightBooks flight = null;
        for (String line : block.split("\n")) {
            Matcher made = MADE.matcher(line);
            if (made.matches()) {
                flight = new FlightBooks(Integer.parseInt(made.group(1)));
            } else if (!line.isBlank()) {
                exampleLine(flight, line);
            }
        }
    }

    private static void exampleLine(FlightBooks flight, String line) throws ReflectiveOperationException {
        Matcher call = CALL.matcher(line);
        Due.holds("a call with its answer: " + line, call.matches());
        if (call.matches()) {
            Integer[] arguments = Stream.of(call.group(2).split(", ")).map(Integer::valueOf).toArray(Integer[]::new);
            Due.is(line, answer(flight, call.group(1), arguments), Integer.parseInt(call.group(3)));
        }
    }

    private static int answer(FlightBooks flight, String name, Integer[] arguments)
            throws ReflectiveOperationException {
        for (Method method : FlightBooks.class.getMethods()) {
            if (method.getName().equals(name)) {
                return (Integer) method.invoke(flight, (Object[]) arguments);
            }
        }
        throw new InvocationTargetException(null, "no call " + name);
    }

    /** Each call of the document's face, as its table tells it: names without types. */
    private static void calls(String readme) throws IOException {
        Matcher call = FACE.matcher(Files.readString(Path.of("../shared/DOC.md")));
        int found = 0;
        while (call.find()) {
            found++;
            String told = call.group(1).replace("int ", "");
            Due.holds("README.md tells of " + told, readme.contains("\n| `" + told + "` | "));
        }
        Due.is("calls of the face", found, 18);
    }

    private static void tests(String readme) throws IOException {
        Set<String> told = new TreeSet<>();
        Matcher test = Pattern.compile("\n\\| `(\\w+Test)` \\| ").matcher(readme);
        while (test.find()) {
            told.add(test.group(1));
        }
        try (Stream<Path> files = Files.list(Path.of("src/test/java"))) {
            List<String> are = files.map(file -> file.getFileName().toString())
                .filter(name -> name.endsWith("Test.java"))
                .map(name -> name.replace(".java", "")).sorted().collect(Collectors.toList());
            Due.holds("the tests are " + are + ", README.md tells of " + told, are.equals(List.copyOf(told)));
        }
    }
}
