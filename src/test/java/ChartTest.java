/** Promises 15 to 18: the chart. */
public final class ChartTest {
    private static final int[] OUTSIDE = {Integer.MIN_VALUE, -1, 24, 25, Integer.MAX_VALUE};

    private ChartTest() {
    }

    public static void main(String[] args) {
        promise15Survey();
        promise15ChartStays();
        promise16Note();
        promise16NoteFaults();
        promise17Chart();
        promise17ChartFaults();
        promise18Columns();
        Due.end();
    }

    private static void promise15Survey() {
        for (int rows = 0; rows <= 24; rows += 12) {
            for (int columns = 0; columns <= 24; columns += 8) {
                FlightBooks x = new FlightBooks(1);
                String what = "15: " + rows + " by " + columns;
                Due.is(what, x.survey(rows, columns), 0);
                for (int row = 0; row < rows; row++) {
                    Due.is(what, x.columns(row), columns);
                }
                Due.is(what, x.columns(rows), -200005);
                if (rows > 0 && columns > 0) {
                    Due.is(what, x.chart(rows - 1, columns - 1), 0);
                }
            }
        }
        FlightBooks x = Due.withBooks(1, 1);
        x.write(Due.SIGNS, 0, 9);
        x.survey(24, 24);
        x.note(Due.SIGNS, 0, 0, 0);
        x.note(Due.SIGNS, 0, 23, 23);
        x.note(Due.SIGNS, 0, 1, 2);
        Due.is("15: a smaller one", x.survey(2, 3), 0);
        Due.is("15: all 0", x.chart(0, 0), 0);
        Due.is("15: all 0", x.chart(1, 2), 0);
        Due.is("15: the largest again", x.survey(24, 24), 0);
        Due.is("15: all 0", x.chart(23, 23), 0);
        Due.is("15: no FAULT", x.look(3), 0);
        Due.is("15: the chart is no BOOK", x.look(5), 5);
    }

    private static void promise15ChartStays() {
        int[][] tooMany = {{25, 1}, {1, 25}, {25, -1}, {-1, 25}, {25, 25},
            {Integer.MAX_VALUE, Integer.MIN_VALUE}, {Integer.MIN_VALUE, Integer.MAX_VALUE}};
        int[][] tooFew = {{-1, 1}, {1, -1}, {-1, -1}, {24, -1}, {-1, 24},
            {Integer.MIN_VALUE, 0}, {0, Integer.MIN_VALUE}};
        FlightBooks x = Due.withBooks(1, 1);
        x.write(Due.SIGNS, 0, 9);
        x.survey(2, 3);
        x.note(Due.SIGNS, 0, 1, 2);
        FlightBooks y = new FlightBooks(1);
        for (int i = 0; i < 7; i++) {
            Due.is("15: above 24", x.survey(tooMany[i][0], tooMany[i][1]), -2);
            Due.is("15: below 0", x.survey(tooFew[i][0], tooFew[i][1]), -3);
            Due.is("15: above 24", y.survey(tooMany[i][0], tooMany[i][1]), -2);
            Due.is("15: below 0", y.survey(tooFew[i][0], tooFew[i][1]), -3);
        }
        Due.is("15: it stays", x.chart(1, 2), 9);
        Due.is("15: it stays", x.columns(1), 3);
        Due.is("15: it stays", x.columns(2), -200005);
        Due.is("15: it stays MISSING", y.columns(0), -100005);
    }

    private static void promise16Note() {
        int[] lowest = {0, -32768, -16000, 0, -128};
        int[] highest = {65535, 32767, 16000, 1, 127};
        FlightBooks x = Due.withBooks(1, 2);
        x.survey(5, 24);
        for (int book = Due.SIGNS; book <= Due.TOLLS; book++) {
            x.write(book, 0, lowest[book]);
            x.write(book, 1, highest[book]);
            Due.is("16: note", x.note(book, 0, book, 0), 0);
            Due.is("16: note", x.note(book, 1, book, 23), 0);
        }
        for (int book = Due.SIGNS; book <= Due.TOLLS; book++) {
            Due.is("16: lowest", x.chart(book, 0), lowest[book]);
            Due.is("16: highest", x.chart(book, 23), highest[book]);
            Due.is("16: no other place", x.chart(book, 1), 0);
            Due.book("16: the book stays", x, book, lowest[book], highest[book]);
        }
        x.lose(Due.SIGNS);
        Due.is("16: it stays without the book", x.chart(0, 23), 65535);
        x.note(Due.TOLLS, 1, 0, 23);
        Due.is("16: another one", x.chart(0, 23), 127);
        Due.is("16: no FAULT", x.look(3), 0);
    }

    private static void promise16NoteFaults() {
        for (int book = Due.SIGNS; book <= Due.TOLLS; book++) {
            FlightBooks x = new FlightBooks(1);
            Due.fault("16: book MISSING", x, 0, x.note(book, 0, 0, 0), -100000 - book);
            x.keep(book, 2);
            x.write(book, 1, 1);
            Due.fault("16: no line", x, 1, x.note(book, 2, 0, 0), -200000 - book);
            Due.fault("16: no line", x, 2, x.note(book, -1, 0, 0), -200000 - book);
            Due.fault("16: chart MISSING", x, 3, x.note(book, 1, -1, -1), -100005);
            x.survey(2, 3);
            Due.fault("16: no row", x, 4, x.note(book, 1, 2, 3), -200005);
            Due.fault("16: no row", x, 5, x.note(book, 1, -1, 0), -200005);
            Due.fault("16: no column", x, 6, x.note(book, 1, 1, 3), -200006);
            Due.fault("16: no column", x, 7, x.note(book, 1, 0, -1), -200006);
            Due.fault("16: line ahead of chart", x, 8, x.note(book, 2, 2, 3), -200000 - book);
            x.lose(book);
            Due.fault("16: book ahead of chart", x, 9, x.note(book, 2, 2, 3), -100000 - book);
            for (int place = 0; place < 6; place++) {
                Due.is("16: nothing is done", x.chart(place / 3, place % 3), 0);
            }
        }
    }

    private static void promise17Chart() {
        FlightBooks x = Due.withBooks(1, 1);
        x.survey(3, 4);
        for (int place = 0; place < 12; place++) {
            x.write(Due.SIGNS, 0, 100 + place);
            x.note(Due.SIGNS, 0, place / 4, place % 4);
        }
        for (int place = 0; place < 12; place++) {
            Due.is("17: chart", x.chart(place / 4, place % 4), 100 + place);
        }
        x.keep(Due.LOADS, 1);
        for (int i = 0; i < 6; i++) {
            x.change(Due.LOADS, 0, 1, 16000);
        }
        x.change(Due.LOADS, 0, 1, 4005);
        x.note(Due.LOADS, 0, 0, 0);
        Due.is("17: a number like a FAULT", x.chart(0, 0), -100005);
        Due.is("17: that is none", x.look(3), 0);
    }

    private static void promise17ChartFaults() {
        FlightBooks x = new FlightBooks(1);
        Due.fault("17: MISSING", x, 0, x.chart(0, 0), -100005);
        Due.fault("17: MISSING", x, 1, x.chart(-1, -1), -100005);
        x.survey(0, 24);
        Due.fault("17: no rows", x, 2, x.chart(0, 0), -200005);
        x.survey(24, 0);
        Due.fault("17: no columns", x, 3, x.chart(0, 0), -200006);
        x.survey(24, 24);
        for (int i = 0; i < OUTSIDE.length; i++) {
            int before = 4 + 3 * i;
            Due.fault("17: no row", x, before, x.chart(OUTSIDE[i], 0), -200005);
            Due.fault("17: neither", x, before + 1, x.chart(OUTSIDE[i], OUTSIDE[i]), -200005);
            Due.fault("17: no column", x, before + 2, x.chart(23, OUTSIDE[i]), -200006);
        }
        x.survey(2, 5);
        Due.is("17: rows are not columns", x.chart(2, 1), -200005);
        Due.is("17: columns are not rows", x.chart(1, 4), 0);
        Due.is("17: no column", x.chart(1, 5), -200006);
    }

    private static void promise18Columns() {
        FlightBooks x = new FlightBooks(1);
        Due.fault("18: MISSING", x, 0, x.columns(0), -100005);
        x.survey(0, 7);
        Due.fault("18: no rows", x, 1, x.columns(0), -200005);
        x.survey(3, 0);
        Due.is("18: no columns", x.columns(2), 0);
        x.survey(24, 24);
        Due.is("18: the first row", x.columns(0), 24);
        Due.is("18: the last row", x.columns(23), 24);
        for (int i = 0; i < OUTSIDE.length; i++) {
            Due.fault("18: no row", x, 2 + i, x.columns(OUTSIDE[i]), -200005);
        }
        x.survey(3, 7);
        Due.is("18: columns", x.columns(2), 7);
        Due.is("18: no row", x.columns(3), -200005);
    }
}
