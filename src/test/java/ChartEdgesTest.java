import java.io.IOException;

/** Promises 15 to 18: a test for each of their sentences that names a boundary. */
public final class ChartEdgesTest {
    private static final int LOWEST = Integer.MIN_VALUE;
    private static final int HIGHEST = Integer.MAX_VALUE;
    private static final int[][] ABOVE_24 = {
        {25, 0}, {0, 25}, {25, 24}, {24, 25}, {25, 25}, {HIGHEST, 1}, {1, HIGHEST}
    };
    private static final int[][] BELOW_0 = {
        {-1, 0}, {0, -1}, {-1, 24}, {24, -1}, {-1, -1}, {LOWEST, 1}, {1, LOWEST}
    };
    private static final int[][] ONE_ABOVE_24_ONE_BELOW_0 = {
        {25, -1}, {-1, 25}, {HIGHEST, LOWEST}, {LOWEST, HIGHEST}
    };

    private ChartEdgesTest() {
    }

    public static void main(String[] args) throws IllegalAccessException, IOException {
        Sentences.run(ChartEdgesTest.class);
    }

    /** A chart of so many rows and columns, with 1000 * row + column + 1 at each place. */
    private static FlightBooks charted(int rows, int columns) {
        FlightBooks x = Due.withBooks(1, 1);
        x.survey(rows, columns);
        for (int row = 0; row < rows; row++) {
            for (int column = 0; column < columns; column++) {
                x.write(Due.SIGNS, 0, 1000 * row + column + 1);
                x.note(Due.SIGNS, 0, row, column);
            }
        }
        return x;
    }

    private static void isCharted(String what, FlightBooks x, int rows, int columns) {
        for (int row = 0; row < rows; row++) {
            Due.is(what + ": columns(" + row + ")", x.columns(row), columns);
            for (int column = 0; column < columns; column++) {
                Due.is(what + ": chart(" + row + ", " + column + ")",
                    x.chart(row, column), 1000 * row + column + 1);
            }
        }
        Due.is(what + ": no row beyond", x.columns(rows), -200005);
    }

    // ---- 15: survey

    @Says(promise = 15, value = "The CHART is a new one of so many rows and columns, all 0: 0.")
    static void p15SurveyOfNoRows() {
        for (int columns : new int[] {0, 1, 24}) {
            FlightBooks x = new FlightBooks(1);
            Due.is("survey(0, " + columns + ")", x.survey(0, columns), 0);
            Due.is("it is not MISSING, but has no row", x.chart(0, 0), -200005);
            Due.is("it is not MISSING, but has no row", x.columns(0), -200005);
        }
    }

    @Says(promise = 15, value = "The CHART is a new one of so many rows and columns, all 0: 0.")
    static void p15SurveyOfNoColumns() {
        for (int rows : new int[] {1, 2, 24}) {
            FlightBooks x = new FlightBooks(1);
            Due.is("survey(" + rows + ", 0)", x.survey(rows, 0), 0);
            Due.is("the last row has none", x.columns(rows - 1), 0);
            Due.is("no column", x.chart(rows - 1, 0), -200006);
            Due.is("no row beyond", x.chart(rows, 0), -200005);
        }
    }

    @Says(promise = 15, value = "The CHART is a new one of so many rows and columns, all 0: 0.")
    static void p15SurveyOf24() {
        FlightBooks x = new FlightBooks(1);
        Due.is("survey(24, 24)", x.survey(24, 24), 0);
        for (int row = 0; row < 24; row++) {
            for (int column = 0; column < 24; column += 23) {
                Due.is("the ends of row " + row, x.chart(row, column), 0);
            }
            Due.is("columns(" + row + ")", x.columns(row), 24);
        }
        Due.is("no column 24", x.chart(23, 24), -200006);
        Due.is("no row 24", x.chart(24, 23), -200005);
        FlightBooks wide = new FlightBooks(1);
        Due.is("survey(1, 24)", wide.survey(1, 24), 0);
        Due.is("its last place", wide.chart(0, 23), 0);
        Due.is("no row 1", wide.chart(1, 0), -200005);
        FlightBooks high = new FlightBooks(1);
        Due.is("survey(24, 1)", high.survey(24, 1), 0);
        Due.is("its last place", high.chart(23, 0), 0);
        Due.is("no column 1", high.chart(0, 1), -200006);
    }

    @Says(promise = 15, value = "The CHART is a new one of so many rows and columns, all 0: 0.")
    static void p15SurveyWhatItWasIsGone() {
        int[][] charts = {{2, 3}, {1, 2}, {0, 3}, {2, 0}, {0, 0}, {3, 4}};
        for (int[] chart : charts) {
            FlightBooks x = charted(2, 3);
            Due.is("a new one", x.survey(chart[0], chart[1]), 0);
            for (int row = 0; row < chart[0]; row++) {
                for (int column = 0; column < chart[1]; column++) {
                    Due.is("0 at once", x.chart(row, column), 0);
                }
            }
            x.survey(3, 4);
            for (int place = 0; place < 12; place++) {
                Due.is("0 behind one more", x.chart(place / 4, place % 4), 0);
            }
        }
    }

    private static void surveyed(int[][] charts, int want) {
        for (int[] chart : charts) {
            FlightBooks x = new FlightBooks(1);
            Due.is("survey(" + chart[0] + ", " + chart[1] + ")", x.survey(chart[0], chart[1]), want);
            Due.is("no FAULT", x.look(3), 0);
        }
    }

    @Says(promise = 15, value = "-2: one of them is above 24 (asked ahead);")
    static void p15SurveyAbove24() {
        surveyed(ABOVE_24, -2);
    }

    @Says(promise = 15, value = "-2: one of them is above 24 (asked ahead);")
    static void p15SurveyAbove24IsAskedAhead() {
        surveyed(ONE_ABOVE_24_ONE_BELOW_0, -2);
    }

    @Says(promise = 15, value = "-3: one of them is below 0.")
    static void p15SurveyBelow0() {
        surveyed(BELOW_0, -3);
    }

    @Says(promise = 15, value = "(The CHART stays as it was then.)")
    static void p15SurveyMissingChartStays() {
        for (int[][] charts : new int[][][] {ABOVE_24, BELOW_0, ONE_ABOVE_24_ONE_BELOW_0}) {
            for (int[] chart : charts) {
                FlightBooks x = new FlightBooks(1);
                x.survey(chart[0], chart[1]);
                Due.is("it is MISSING", x.chart(0, 0), -100005);
            }
        }
    }

    @Says(promise = 15, value = "(The CHART stays as it was then.)")
    static void p15SurveyChartWithoutPlacesStays() {
        for (int[][] charts : new int[][][] {ABOVE_24, BELOW_0, ONE_ABOVE_24_ONE_BELOW_0}) {
            for (int[] chart : charts) {
                FlightBooks x = new FlightBooks(1);
                x.survey(0, 0);
                x.survey(chart[0], chart[1]);
                Due.is("it has no row", x.columns(0), -200005);
                x.survey(1, 0);
                x.survey(chart[0], chart[1]);
                Due.is("it has no column", x.columns(0), 0);
            }
        }
    }

    @Says(promise = 15, value = "(The CHART stays as it was then.)")
    static void p15SurveyChartWithPlacesStays() {
        for (int[][] charts : new int[][][] {ABOVE_24, BELOW_0, ONE_ABOVE_24_ONE_BELOW_0}) {
            for (int[] chart : charts) {
                FlightBooks x = charted(2, 3);
                x.survey(chart[0], chart[1]);
                isCharted("it stays", x, 2, 3);
            }
        }
    }

    // ---- 16: note

    @Says(promise = 16, value = "A line of a BOOK is READ, then the place of the CHART is that: 0;")
    static void p16NoteWhatEachBookHoldsAtItsEnds() {
        int[] lowest = {0, -32768, -16000, 0, -128};
        int[] highest = {65535, 32767, 16000, 1, 127};
        for (int book = Due.SIGNS; book <= Due.TOLLS; book++) {
            FlightBooks x = new FlightBooks(1);
            Due.fill(x, book, lowest[book], highest[book]);
            x.survey(1, 3);
            Due.is("the lowest", x.note(book, 0, 0, 0), 0);
            Due.is("the highest", x.note(book, 1, 0, 2), 0);
            Due.is("the lowest", x.chart(0, 0), lowest[book]);
            Due.is("no other place", x.chart(0, 1), 0);
            Due.is("the highest", x.chart(0, 2), highest[book]);
            Due.book("the lines stay", x, book, lowest[book], highest[book]);
        }
    }

    @Says(promise = 16, value = "A line of a BOOK is READ, then the place of the CHART is that: 0;")
    static void p16NoteFirstAndLastLineAndPlace() {
        FlightBooks x = Due.withBooks(1, 24);
        x.write(Due.SIGNS, 0, 7);
        x.write(Due.SIGNS, 23, 8);
        x.survey(24, 24);
        Due.is("to the last place", x.note(Due.SIGNS, 0, 23, 23), 0);
        Due.is("to the first place", x.note(Due.SIGNS, 23, 0, 0), 0);
        Due.is("at the last place", x.chart(23, 23), 7);
        Due.is("at the first place", x.chart(0, 0), 8);
        Due.is("another corner", x.chart(0, 23), 0);
        Due.is("another corner", x.chart(23, 0), 0);
        Due.is("no FAULT", x.look(3), 0);
    }

    @Says(promise = 16, value = "A line of a BOOK is READ, then the place of the CHART is that: 0;")
    static void p16NoteStaysAsItWasRead() {
        FlightBooks x = charted(1, 1);
        x.write(Due.SIGNS, 0, 9);
        Due.is("the line is another", x.chart(0, 0), 1);
        x.lose(Due.SIGNS);
        Due.is("the BOOK is MISSING", x.chart(0, 0), 1);
        x.note(Due.LEVELS, 0, 0, 0);
        Due.is("the place is another", x.chart(0, 0), 0);
    }

    @Says(promise = 16, value = "FAULTS of the BOOK, then of the CHART.")
    static void p16NoteMissingBook() {
        for (int book = Due.SIGNS; book <= Due.TOLLS; book++) {
            FlightBooks x = new FlightBooks(1);
            Due.fault("ahead of a MISSING CHART", x, 0, x.note(book, 0, 0, 0), -100000 - book);
            x.survey(1, 1);
            Due.fault("a place that is", x, 1, x.note(book, 0, 0, 0), -100000 - book);
            Due.fault("ahead of no such row", x, 2, x.note(book, -1, 1, 1), -100000 - book);
            Due.is("nothing is done", x.chart(0, 0), 0);
        }
    }

    @Says(promise = 16, value = "FAULTS of the BOOK, then of the CHART.")
    static void p16NoteNoSuchLine() {
        for (int book = Due.SIGNS; book <= Due.TOLLS; book++) {
            FlightBooks x = new FlightBooks(1);
            Due.fill(x, book, 1, 1);
            Due.fault("ahead of a MISSING CHART", x, 0, x.note(book, 2, 0, 0), -200000 - book);
            x.survey(1, 1);
            Due.fault("one beyond", x, 1, x.note(book, 2, 0, 0), -200000 - book);
            Due.fault("one below", x, 2, x.note(book, -1, 0, 0), -200000 - book);
            Due.fault("ahead of no such row", x, 3, x.note(book, 2, 1, 1), -200000 - book);
            x.keep(book, 0);
            Due.fault("of none", x, 4, x.note(book, 0, 0, 0), -200000 - book);
            Due.is("nothing is done", x.chart(0, 0), 0);
        }
    }

    @Says(promise = 16, value = "FAULTS of the BOOK, then of the CHART.")
    static void p16NoteMissingChart() {
        FlightBooks x = Due.withBooks(1, 1);
        Due.fault("a place", x, 0, x.note(Due.SIGNS, 0, 0, 0), -100005);
        Due.fault("ahead of row and column", x, 1, x.note(Due.SIGNS, 0, -1, 24), -100005);
        Due.is("it stays MISSING", x.columns(0), -100005);
    }

    @Says(promise = 16, value = "FAULTS of the BOOK, then of the CHART.")
    static void p16NoteNoSuchRow() {
        FlightBooks x = charted(2, 3);
        int[] rows = {2, -1, 24, LOWEST, HIGHEST};
        for (int i = 0; i < rows.length; i++) {
            Due.fault("row " + rows[i], x, 2 * i, x.note(Due.LEVELS, 0, rows[i], 0), -200005);
            Due.fault("ahead of the column", x, 2 * i + 1, x.note(Due.LEVELS, 0, rows[i], 3), -200005);
        }
        isCharted("nothing is done", x, 2, 3);
        x.survey(0, 3);
        Due.is("of none", x.note(Due.LEVELS, 0, 0, 0), -200005);
    }

    @Says(promise = 16, value = "FAULTS of the BOOK, then of the CHART.")
    static void p16NoteNoSuchColumn() {
        FlightBooks x = charted(2, 3);
        int[] columns = {3, -1, 24, LOWEST, HIGHEST};
        for (int i = 0; i < columns.length; i++) {
            Due.fault("column " + columns[i], x, i, x.note(Due.LEVELS, 0, 1, columns[i]), -200006);
        }
        isCharted("nothing is done", x, 2, 3);
        x.survey(2, 0);
        Due.is("of none", x.note(Due.LEVELS, 0, 0, 0), -200006);
    }

    @Says(promise = 2, value = "REFUSED: there is no such BOOK (here and below).")
    static void p16NoteNoSuchBook() {
        for (int book : new int[] {LOWEST, -1, 5, HIGHEST}) {
            FlightBooks x = new FlightBooks(1);
            Due.refused("ahead of a MISSING CHART", x, x.note(book, 0, 0, 0));
            x = charted(2, 3);
            Due.refused("note", x, x.note(book, 0, 0, 0));
            Due.refused("ahead of no such row", x, x.note(book, 0, 2, 3));
            isCharted("nothing is done", x, 2, 3);
        }
    }

    // ---- 17: chart

    @Says(promise = 17, value = "What is at a place of the CHART.")
    static void p17ChartEachPlace() {
        isCharted("3 by 4", charted(3, 4), 3, 4);
        isCharted("4 by 3", charted(4, 3), 4, 3);
        isCharted("1 by 1", charted(1, 1), 1, 1);
    }

    @Says(promise = 17, value = "What is at a place of the CHART.")
    static void p17ChartMissing() {
        FlightBooks x = new FlightBooks(1);
        Due.fault("a place", x, 0, x.chart(0, 0), -100005);
        Due.fault("ahead of the row", x, 1, x.chart(-1, 0), -100005);
        Due.fault("ahead of the column", x, 2, x.chart(0, 24), -100005);
    }

    @Says(promise = 17, value = "What is at a place of the CHART.")
    static void p17ChartNoSuchRow() {
        FlightBooks x = charted(2, 5);
        int[] rows = {2, 4, -1, 24, LOWEST, HIGHEST};
        for (int i = 0; i < rows.length; i++) {
            Due.fault("row " + rows[i], x, 2 * i, x.chart(rows[i], 0), -200005);
            Due.fault("ahead of the column", x, 2 * i + 1, x.chart(rows[i], rows[i]), -200005);
        }
    }

    @Says(promise = 17, value = "What is at a place of the CHART.")
    static void p17ChartNoSuchColumn() {
        FlightBooks x = charted(5, 2);
        int[] columns = {2, 4, -1, 24, LOWEST, HIGHEST};
        for (int i = 0; i < columns.length; i++) {
            Due.fault("column " + columns[i], x, i, x.chart(4, columns[i]), -200006);
        }
    }

    // ---- 18: columns

    @Says(promise = 18, value = "How many columns a row of the CHART has;")
    static void p18ColumnsOfFirstAndLastRow() {
        for (int columns : new int[] {0, 1, 23, 24}) {
            FlightBooks x = new FlightBooks(1);
            x.survey(24, columns);
            Due.is("the first row", x.columns(0), columns);
            Due.is("the last row", x.columns(23), columns);
            Due.is("no FAULT, be it none", x.look(3), 0);
        }
    }

    @Says(promise = 18, value = "FAULTS but the last one.")
    static void p18ColumnsMissingChart() {
        FlightBooks x = new FlightBooks(1);
        Due.fault("row 0", x, 0, x.columns(0), -100005);
        Due.fault("ahead of the row", x, 1, x.columns(-1), -100005);
    }

    @Says(promise = 18, value = "FAULTS but the last one.")
    static void p18ColumnsNoSuchRow() {
        FlightBooks x = new FlightBooks(1);
        x.survey(3, 7);
        int[] rows = {3, 6, -1, 24, LOWEST, HIGHEST};
        for (int i = 0; i < rows.length; i++) {
            Due.fault("row " + rows[i], x, i, x.columns(rows[i]), -200005);
        }
        x.survey(0, 7);
        Due.fault("of none", x, rows.length, x.columns(0), -200005);
    }
}
