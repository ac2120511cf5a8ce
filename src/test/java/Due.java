/** What the tests share: counts the answers that are not as due, and tells them. */
final class Due {
    static final int SIGNS = 0;
    static final int LEVELS = 1;
    static final int LOADS = 2;
    static final int GATES = 3;
    static final int TOLLS = 4;
    static final int REFUSED = -300000;

    private static int asked = 0;
    private static int wrong = 0;

    private Due() {
    }

    static void is(String what, int got, int want) {
        asked++;
        if (got != want) {
            wrong++;
            System.out.println(what + " answered " + got + ", due is " + want);
        }
    }

    static void holds(String what, boolean truth) {
        is(what, truth ? 1 : 0, 1);
    }

    /** What every line of a book is, and how many there are. */
    static void book(String what, FlightBooks x, int book, int... want) {
        is(what + ": lines of book " + book, x.lines(book), want.length);
        for (int line = 0; line < want.length; line++) {
            is(what + ": book " + book + " line " + line, x.read(book, line), want[line]);
        }
    }

    /** That a call answered a FAULT, and was counted once as such. */
    static void fault(String what, FlightBooks x, int countBefore, int got, int want) {
        is(what, got, want);
        is(what + ": look(3)", x.look(3), countBefore + 1);
        is(what + ": look(4)", x.look(4), want);
    }

    /** That a call was REFUSED, which is no FAULT; of an object that had none before. */
    static void refused(String what, FlightBooks x, int got) {
        is(what, got, REFUSED);
        is(what + ": look(3)", x.look(3), 0);
        is(what + ": look(4)", x.look(4), 0);
    }

    /** That a call answered a number like that of a FAULT or of REFUSED, and was not counted. */
    static void likeAFault(String what, FlightBooks x, int got, int want) {
        is(what, got, want);
        is(what + ": look(3)", x.look(3), 0);
        is(what + ": look(4)", x.look(4), 0);
    }

    /** A book gets as many lines as there are numbers, and these numbers. */
    static void fill(FlightBooks x, int book, int... values) {
        x.keep(book, values.length);
        for (int line = 0; line < values.length; line++) {
            x.write(book, line, values[line]);
        }
    }

    /** A line of LOADS gets a load that may be beyond what one call may tell. */
    static void load(FlightBooks x, int line, int eighths) {
        int step = eighths < 0 ? -16000 : 16000;
        x.write(LOADS, line, eighths % 16000);
        for (int i = 0; i < eighths / step; i++) {
            x.change(LOADS, line, 0, step);
        }
    }

    static FlightBooks withBooks(int chambers, int lines) {
        FlightBooks x = new FlightBooks(chambers);
        for (int book = SIGNS; book <= TOLLS; book++) {
            x.keep(book, lines);
        }
        return x;
    }

    static int asked() {
        return asked;
    }

    static int wrong() {
        return wrong;
    }

    static void end() {
        System.out.println(asked + " answers, " + wrong + " not as due");
        if (asked == 0 || wrong != 0) {
            System.exit(1);
        }
    }
}
