import java.lang.reflect.InvocationTargetException;
import java.lang.reflect.Method;
import java.util.Map;
import java.util.Random;
import java.util.Set;
import java.util.TreeMap;
import java.util.TreeSet;

/**
 * Any calls in many states: none throws, and each answers as PlainFlight does. At the end each kind
 * of answer must have come up, so that the runs are known to get far enough.
 */
public final class AnyCallsTest {
    private static final int RUNS = 4000;
    /** Together with what is asked behind them: below the 512 calls of an object. */
    private static final int CALLS = 350;

    private static final int[] EDGES = {
        Integer.MIN_VALUE, -2000001, -65536, -16001, -16000, -4002, -2, -1, 4, 5, 6, 22, 23, 24, 25,
        127, 128, 16000, 16001, 32767, 32768, 65535, 65536, 2000001, Integer.MAX_VALUE
    };
    /** Acts stand here twice, so that barges get on. */
    private static final String[] NAMES = {
        "keep", "lose", "lines", "read", "write", "change", "tally", "copy", "sluice", "open", "shut",
        "enter", "pass", "survey", "note", "chart", "columns", "look",
        "write", "change", "open", "enter", "pass", "pass", "note", "chart"
    };
    private static final String BOOK_FAULTS = "-100000 -100001 -100002 -100003 -100004";
    private static final String LINE_FAULTS = "-200000 -200001 -200002 -200003 -200004";
    private static final String CHART_FAULTS = "-100005 -200005 -200006";
    private static final String[][] MUST_COME_UP = {
        {"keep", "0 -2 -3 -300000"},
        {"lose", "0 1 -300000"},
        {"lines", "0 24 -300000", BOOK_FAULTS},
        {"read", "0 -300000", BOOK_FAULTS, LINE_FAULTS},
        {"write", "0 -300000", BOOK_FAULTS, LINE_FAULTS},
        {"change", "0 -300000", BOOK_FAULTS, LINE_FAULTS},
        {"tally", "0 -300000", BOOK_FAULTS},
        {"copy", "0 1 24 -300000", BOOK_FAULTS, LINE_FAULTS},
        {"sluice", "0 -32768 -300000 -100001 -200001"},
        {"open", "0 -2 -300000 -100001 -200001 -100003 -200003"},
        {"shut", "0 1 -300000 -100003 -200003"},
        {"enter", "1 2 -2 -3 -300000", BOOK_FAULTS.replace(" -100003", ""), LINE_FAULTS.replace(" -200003", "")},
        {"pass", "0 1 -1 -2 -3 -4 16000 -300000", BOOK_FAULTS.replace(" -100001", ""),
            LINE_FAULTS.replace(" -200001", "")},
        {"survey", "0 -2 -3"},
        {"note", "0 -300000", BOOK_FAULTS, LINE_FAULTS, CHART_FAULTS},
        {"chart", "0 1 65535 -1", CHART_FAULTS},
        {"columns", "0 24 -100005 -200005"},
        {"look", "0 1 24 -300000"},
    };

    private final Random random = new Random(17);
    private final Map<String, Method> methods = new TreeMap<>();
    private final Map<String, Set<Integer>> cameUp = new TreeMap<>();

    private AnyCallsTest() {
        for (Method method : FlightBooks.class.getDeclaredMethods()) {
            methods.put(method.getName(), method);
        }
        for (String name : NAMES) {
            cameUp.put(name, new TreeSet<>());
        }
    }

    public static void main(String[] args) throws IllegalAccessException {
        AnyCallsTest test = new AnyCallsTest();
        for (int run = 0; run < RUNS; run++) {
            test.oneRun(run);
        }
        test.eachKindCameUp();
        Due.end();
    }

    private void oneRun(int run) throws IllegalAccessException {
        int chambers = any();
        FlightBooks x = new FlightBooks(chambers);
        PlainFlight plain = new PlainFlight(chambers);
        boolean isAsDue = random.nextBoolean() || allBooksAreKept(run, x, plain);
        for (int call = 0; call < CALLS && isAsDue; call++) {
            String name = NAMES[random.nextInt(NAMES.length)];
            if (!name.equals("lose") || random.nextInt(8) == 0) {
                isAsDue = isAsDue(run, x, plain, name, anyArguments(name));
            }
        }
        if (isAsDue) {
            allIsAsDue(run, x, plain);
        }
    }

    private boolean allBooksAreKept(int run, FlightBooks x, PlainFlight plain) throws IllegalAccessException {
        for (int book = Due.SIGNS; book <= Due.TOLLS; book++) {
            isAsDue(run, x, plain, "keep", book, 1 + random.nextInt(24));
        }
        return true;
    }

    private void allIsAsDue(int run, FlightBooks x, PlainFlight plain) throws IllegalAccessException {
        for (int what = 0; what <= 5; what++) {
            isAsDue(run, x, plain, "look", what);
        }
        for (int book = Due.SIGNS; book <= Due.TOLLS; book++) {
            for (int line = 0; line < 24; line++) {
                isAsDue(run, x, plain, "read", book, line);
            }
        }
    }

    private boolean isAsDue(int run, FlightBooks x, PlainFlight plain, String name, int... arguments)
            throws IllegalAccessException {
        Object[] boxed = new Object[arguments.length];
        StringBuilder call = new StringBuilder("run ").append(run).append(": ").append(name);
        for (int i = 0; i < boxed.length; i++) {
            boxed[i] = arguments[i];
            call.append(' ').append(arguments[i]);
        }
        int want = plain.answer(name, arguments);
        cameUp.get(name).add(want);
        try {
            int got = (Integer) methods.get(name).invoke(x, boxed);
            Due.is(call.toString(), got, want);
            return got == want;
        } catch (InvocationTargetException thrown) {
            Due.holds(call + " threw " + thrown.getCause(), false);
            return false;
        }
    }

    private int[] anyArguments(String name) {
        int[] arguments = new int[methods.get(name).getParameterCount()];
        for (int i = 0; i < arguments.length; i++) {
            arguments[i] = any();
        }
        return arguments;
    }

    /** Mostly small, so that acts get far; else an edge, or any int. */
    private int any() {
        int kind = random.nextInt(10);
        if (kind == 0) {
            return EDGES[random.nextInt(EDGES.length)];
        }
        return kind == 1 ? random.nextInt() : random.nextInt(5);
    }

    private void eachKindCameUp() {
        for (String[] kinds : MUST_COME_UP) {
            for (int i = 1; i < kinds.length; i++) {
                for (String answer : kinds[i].split(" ")) {
                    Due.holds(kinds[0] + " came to answer " + answer,
                        cameUp.get(kinds[0]).contains(Integer.valueOf(answer)));
                }
            }
        }
    }
}
