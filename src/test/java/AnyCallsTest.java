import java.util.Random;

/** No call throws, for any arguments in many states, and every line keeps within its book's bits. */
public final class AnyCallsTest {
    private static final int[] LOWEST = {0, -32768, -2000000, 0, -128};
    private static final int[] HIGHEST = {65535, 32767, 2000000, 1, 127};
    private static final int[] EDGES = {
        Integer.MIN_VALUE, -2000001, -65536, -16001, -16000, -2, -1, 4, 5, 6, 22, 23, 24, 25,
        127, 128, 16000, 16001, 32767, 32768, 65535, 65536, 2000001, Integer.MAX_VALUE
    };

    private final Random random = new Random(17);

    private AnyCallsTest() {
    }

    public static void main(String[] args) {
        AnyCallsTest test = new AnyCallsTest();
        for (int run = 0; run < 2000; run++) {
            test.oneObject(run);
        }
        Due.end();
    }

    private void oneObject(int run) {
        FlightBooks x = new FlightBooks(any());
        for (int call = 0; call < 350; call++) {
            try {
                anyCall(x);
            } catch (RuntimeException thrown) {
                Due.holds("run " + run + " call " + call + " threw " + thrown, false);
                return;
            }
        }
        linesKeepWithinTheirBits(run, x);
    }

    private void linesKeepWithinTheirBits(int run, FlightBooks x) {
        for (int book = Due.SIGNS; book <= Due.TOLLS; book++) {
            int lines = x.lines(book);
            for (int line = 0; line < lines; line++) {
                int v = x.read(book, line);
                Due.holds("run " + run + ": " + v + " in book " + book,
                    v >= LOWEST[book] && v <= HIGHEST[book]);
            }
        }
    }

    /** Mostly small, so that acts get far; else an edge, or any int. */
    private int any() {
        int kind = random.nextInt(8);
        if (kind == 0) {
            return EDGES[random.nextInt(EDGES.length)];
        }
        return kind == 1 ? random.nextInt() : random.nextInt(5);
    }

    private int anyCall(FlightBooks x) {
        switch (random.nextInt(18)) {
            case 0: return x.keep(any(), any());
            case 1: return random.nextInt(8) == 0 ? x.lose(any()) : 0;
            case 2: return x.lines(any());
            case 3: return x.read(any(), any());
            case 4: return x.write(any(), any(), any());
            case 5: return x.change(any(), any(), any(), any());
            case 6: return x.tally(any());
            case 7: return x.copy(any(), any());
            case 8: return x.sluice(any(), any());
            case 9: return x.open(any());
            case 10: return x.shut(any());
            case 11: return x.enter(any(), any());
            case 12: return x.pass(any());
            case 13: return x.survey(any(), any());
            case 14: return x.note(any(), any(), any(), any());
            case 15: return x.chart(any(), any());
            case 16: return x.columns(any());
            default: return x.look(any());
        }
    }
}
