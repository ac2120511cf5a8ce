import java.util.Arrays;

/** The books of a flight of locks, and the chart of what was read in them. */
public final class FlightBooks {
    private static final int SIGNS = 0;
    private static final int LEVELS = 1;
    private static final int LOADS = 2;
    private static final int GATES = 3;
    private static final int TOLLS = 4;
    private static final int BOOKS = 5;

    /** The most chambers, lines of a book, rows and columns of the chart. */
    private static final int MOST = 24;
    /** Stands for the count of lines or rows of what is MISSING. */
    private static final int MISSING = -1;

    private static final int REFUSED = -300000;
    private static final int BOOK_FAULT = -100000;
    private static final int LINE_FAULT = -200000;
    private static final int CHART_FAULT = -100005;
    private static final int ROW_FAULT = -200005;
    private static final int COLUMN_FAULT = -200006;

    private static final int TOO_MANY = -2;
    private static final int TOO_FEW = -3;

    private static final int MORE = 0;
    private static final int LESS = 1;
    private static final int MORE_BY_ONE = 2;
    private static final int LESS_BY_ONE = 3;

    private static final int EIGHTHS = 8;
    private static final int MOST_TOLD_EIGHTHS = 16000;
    private static final int MOST_HELD_EIGHTHS = 2000000;

    private final int chamberCount;

    // All rows are made once, at their longest, and used again: a new book or
    // chart makes no object.
    private final int[] lineCounts = new int[BOOKS];
    private final int[][] held = new int[BOOKS][MOST];
    private final int[][] places = new int[MOST][MOST];
    private int rowCount = MISSING;
    private int columnCount = 0;

    private int bargesOut = 0;
    private int eighthsOut = 0;

    // Counted where a FAULT arises, not by the look of an answer: a load or a
    // place of the chart may be the same number as a FAULT.
    private int faultCount = 0;
    private int latestFault = 0;

    public FlightBooks(int chambers) {
        chamberCount = nearest(chambers, 1, MOST);
        Arrays.fill(lineCounts, MISSING);
    }

    public int keep(int book, int lines) {
        if (!isBook(book)) {
            return REFUSED;
        }
        if (lines > MOST) {
            return TOO_MANY;
        }
        if (lines < 0) {
            return TOO_FEW;
        }
        Arrays.fill(held[book], 0);
        lineCounts[book] = lines;
        return 0;
    }

    public int lose(int book) {
        if (!isBook(book)) {
            return REFUSED;
        }
        if (lineCounts[book] == MISSING) {
            return 0;
        }
        lineCounts[book] = MISSING;
        return 1;
    }

    public int lines(int book) {
        if (!isBook(book)) {
            return REFUSED;
        }
        if (endsAtBook(book)) {
            return latestFault;
        }
        return lineCounts[book];
    }

    public int read(int book, int line) {
        if (!isBook(book)) {
            return REFUSED;
        }
        if (endsAtLine(book, line)) {
            return latestFault;
        }
        return held[book][line];
    }

    public int write(int book, int line, int v) {
        if (!isBook(book) || (book == LOADS && !isToldLoad(v))) {
            return REFUSED;
        }
        if (endsAtLine(book, line)) {
            return latestFault;
        }
        put(book, line, v);
        return 0;
    }

    public int change(int book, int line, int how, int v) {
        if (!isBook(book) || how < MORE || how > LESS_BY_ONE) {
            return REFUSED;
        }
        if (book == LOADS && (how == MORE || how == LESS) && !isToldLoad(v)) {
            return REFUSED;
        }
        if (endsAtLine(book, line)) {
            return latestFault;
        }
        put(book, line, changed(book, held[book][line], how, v));
        return held[book][line];
    }

    public int tally(int book) {
        if (!isBook(book)) {
            return REFUSED;
        }
        if (endsAtBook(book)) {
            return latestFault;
        }
        int sum = 0;
        for (int line = 0; line < lineCounts[book]; line++) {
            sum += held[book][line];
        }
        return sum;
    }

    public int copy(int from, int to) {
        if (!isBook(from) || !isBook(to) || from == to) {
            return REFUSED;
        }
        if (endsAtBook(from)) {
            return latestFault;
        }
        for (int line = 0; line < lineCounts[from]; line++) {
            // Asked at each line, so that a book without lines is copied even
            // to one that is MISSING.
            if (endsAtLine(to, line)) {
                return latestFault;
            }
            put(to, line, told(to, held[from][line]));
        }
        return lineCounts[from];
    }

    public int sluice(int c, int cm) {
        if (!isChamber(c)) {
            return REFUSED;
        }
        if (endsAtLine(LEVELS, c)) {
            return latestFault;
        }
        put(LEVELS, c, held[LEVELS][c] - cm);
        if (!isLast(c)) {
            if (endsAtLine(LEVELS, c + 1)) {
                return latestFault;
            }
            put(LEVELS, c + 1, held[LEVELS][c + 1] + cm);
        }
        return held[LEVELS][c];
    }

    public int open(int c) {
        if (!isChamber(c)) {
            return REFUSED;
        }
        if (endsAtLine(LEVELS, c)) {
            return latestFault;
        }
        int below = 0;
        if (!isLast(c)) {
            if (endsAtLine(LEVELS, c + 1)) {
                return latestFault;
            }
            below = held[LEVELS][c + 1];
        }
        if (held[LEVELS][c] != below) {
            return -2;
        }
        if (endsAtLine(GATES, c)) {
            return latestFault;
        }
        put(GATES, c, 1);
        return 0;
    }

    public int shut(int c) {
        if (!isChamber(c)) {
            return REFUSED;
        }
        if (endsAtLine(GATES, c)) {
            return latestFault;
        }
        int was = held[GATES][c];
        put(GATES, c, 0);
        return was;
    }

    public int enter(int sign, int load) {
        if (cut(SIGNS, sign) == 0 || load < 0 || load > MOST_TOLD_EIGHTHS) {
            return REFUSED;
        }
        if (endsAtLine(SIGNS, 0)) {
            return latestFault;
        }
        if (held[SIGNS][0] != 0) {
            return -2;
        }
        if (endsAtLine(LEVELS, 0)) {
            return latestFault;
        }
        if (load > EIGHTHS * held[LEVELS][0]) {
            return -3;
        }
        if (endsAtArrival(0, sign, load)) {
            return latestFault;
        }
        return held[TOLLS][0];
    }

    public int pass(int c) {
        if (!isChamber(c)) {
            return REFUSED;
        }
        if (endsAtLine(GATES, c)) {
            return latestFault;
        }
        if (held[GATES][c] == 0) {
            return -2;
        }
        if (endsAtLine(SIGNS, c)) {
            return latestFault;
        }
        if (held[SIGNS][c] == 0) {
            return -3;
        }
        return isLast(c) ? goOut(c) : goOn(c);
    }

    public int survey(int rows, int columns) {
        if (rows > MOST || columns > MOST) {
            return TOO_MANY;
        }
        if (rows < 0 || columns < 0) {
            return TOO_FEW;
        }
        for (int row = 0; row < rows; row++) {
            Arrays.fill(places[row], 0);
        }
        rowCount = rows;
        columnCount = columns;
        return 0;
    }

    public int note(int book, int line, int row, int column) {
        if (!isBook(book)) {
            return REFUSED;
        }
        if (endsAtLine(book, line) || endsAtPlace(row, column)) {
            return latestFault;
        }
        places[row][column] = held[book][line];
        return 0;
    }

    public int chart(int row, int column) {
        if (endsAtPlace(row, column)) {
            return latestFault;
        }
        return places[row][column];
    }

    public int columns(int row) {
        if (endsAtRow(row)) {
            return latestFault;
        }
        return columnCount;
    }

    public int look(int what) {
        switch (what) {
            case 0:
                return chamberCount;
            case 1:
                return bargesOut;
            case 2:
                return eighthsOut;
            case 3:
                return faultCount;
            case 4:
                return latestFault;
            case 5:
                return booksKept();
            default:
                return REFUSED;
        }
    }

    private static boolean isBook(int book) {
        return book >= 0 && book < BOOKS;
    }

    private boolean isChamber(int c) {
        return c >= 0 && c < chamberCount;
    }

    private boolean isLast(int c) {
        return c == chamberCount - 1;
    }

    private static boolean isToldLoad(int eighths) {
        return eighths >= -MOST_TOLD_EIGHTHS && eighths <= MOST_TOLD_EIGHTHS;
    }

    // Each endsAt.. tells whether the call ends there. It has counted the FAULT
    // then, and the caller answers latestFault at once: no call counts two.

    private boolean endsAtBook(int book) {
        if (lineCounts[book] == MISSING) {
            return ended(BOOK_FAULT - book);
        }
        return false;
    }

    private boolean endsAtLine(int book, int line) {
        if (endsAtBook(book)) {
            return true;
        }
        if (line < 0 || line >= lineCounts[book]) {
            return ended(LINE_FAULT - book);
        }
        return false;
    }

    private boolean endsAtRow(int row) {
        if (rowCount == MISSING) {
            return ended(CHART_FAULT);
        }
        if (row < 0 || row >= rowCount) {
            return ended(ROW_FAULT);
        }
        return false;
    }

    private boolean endsAtPlace(int row, int column) {
        if (endsAtRow(row)) {
            return true;
        }
        if (column < 0 || column >= columnCount) {
            return ended(COLUMN_FAULT);
        }
        return false;
    }

    /** A barge is written into chamber c, and its toll is counted. */
    private boolean endsAtArrival(int c, int sign, int load) {
        if (endsAtLine(LOADS, c)) {
            return true;
        }
        put(LOADS, c, load);
        if (endsAtLine(SIGNS, c)) {
            return true;
        }
        put(SIGNS, c, sign);
        if (endsAtLine(TOLLS, c)) {
            return true;
        }
        put(TOLLS, c, held[TOLLS][c] + 1);
        return false;
    }

    private boolean ended(int fault) {
        faultCount++;
        latestFault = fault;
        return true;
    }

    private void put(int book, int line, int v) {
        held[book][line] = cut(book, v);
    }

    private static int cut(int book, int v) {
        switch (book) {
            case SIGNS:
                return v & 0xFFFF;
            case LEVELS:
                return (short) v;
            case LOADS:
                return nearest(v, -MOST_HELD_EIGHTHS, MOST_HELD_EIGHTHS);
            case GATES:
                return v & 1;
            default:
                return (byte) v;
        }
    }

    private static int nearest(int v, int lowest, int highest) {
        return Math.max(lowest, Math.min(highest, v));
    }

    /** What comes to a book from another one: LOADS take no more than a call may tell. */
    private static int told(int book, int v) {
        return book == LOADS ? nearest(v, -MOST_TOLD_EIGHTHS, MOST_TOLD_EIGHTHS) : v;
    }

    private static int changed(int book, int was, int how, int v) {
        if (book == GATES) {
            return changedGate(was, how, v);
        }
        int one = book == LOADS ? EIGHTHS : 1;
        switch (how) {
            case MORE:
                return was + v;
            case LESS:
                return was - v;
            case MORE_BY_ONE:
                return was + one;
            default:
                return was - one;
        }
    }

    private static int changedGate(int was, int how, int v) {
        switch (how) {
            case MORE:
                return was | v;
            case LESS:
                return was & v;
            case MORE_BY_ONE:
                return was ^ 1;
            default:
                return was ^ v;
        }
    }

    private int goOut(int c) {
        if (endsAtLine(LOADS, c)) {
            return latestFault;
        }
        bargesOut++;
        eighthsOut += held[LOADS][c];
        return leave(c);
    }

    private int goOn(int c) {
        int next = c + 1;
        if (endsAtLine(SIGNS, next)) {
            return latestFault;
        }
        if (held[SIGNS][next] != 0) {
            return -4;
        }
        if (endsAtLine(LOADS, c)) {
            return latestFault;
        }
        if (endsAtArrival(next, held[SIGNS][c], held[LOADS][c])) {
            return latestFault;
        }
        return leave(c);
    }

    /** Only for a chamber whose load and sign were read in this call. */
    private int leave(int c) {
        int load = held[LOADS][c];
        put(LOADS, c, 0);
        put(SIGNS, c, 0);
        return load;
    }

    private int booksKept() {
        int kept = 0;
        for (int book = 0; book < BOOKS; book++) {
            if (lineCounts[book] != MISSING) {
                kept++;
            }
        }
        return kept;
    }
}
