/** Promises 1 to 8: a new object, and what is done to one book. */
public final class LinesTest {
    private static final int[] EDGES = {
        Integer.MIN_VALUE, -1, 0, 1, 23, 24, 25, Integer.MAX_VALUE
    };
    private static final int[] NO_BOOKS = {Integer.MIN_VALUE, -1, 5, Integer.MAX_VALUE};

    private LinesTest() {
    }

    public static void main(String[] args) {
        promise1NewObject();
        promise2Keep();
        promise3Lose();
        promise4Lines();
        promise5Read();
        promise6Write();
        promise6WriteLoads();
        promise7ChangeNumbers();
        promise7ChangeLoads();
        promise7LoadsAreHeldWithinTheirBounds();
        promise7ChangeGates();
        promise8Tally();
        noSuchBook();
        faultsOfEveryBook();
        Due.end();
    }

    private static void promise1NewObject() {
        int[] want = {1, 1, 1, 1, 23, 24, 24, 24};
        for (int i = 0; i < EDGES.length; i++) {
            FlightBooks x = new FlightBooks(EDGES[i]);
            Due.is("1: N of " + EDGES[i], x.look(0), want[i]);
            Due.is("1: no book is kept", x.look(5), 0);
            Due.is("1: no chart", x.columns(0), -100005);
        }
        FlightBooks one = new FlightBooks(1);
        FlightBooks other = new FlightBooks(2);
        one.keep(Due.SIGNS, 1);
        Due.is("1: objects share no books", other.lines(Due.SIGNS), -100000);
    }

    private static void promise2Keep() {
        for (int book = Due.SIGNS; book <= Due.TOLLS; book++) {
            FlightBooks x = new FlightBooks(2);
            Due.is("2: no line", x.keep(book, 0), 0);
            Due.is("2: no line", x.lines(book), 0);
            Due.is("2: the most lines", x.keep(book, 24), 0);
            Due.book("2: all 0", x, book, new int[24]);
            x.write(book, 0, 1);
            x.write(book, 23, 1);
            Due.is("2: 25 lines", x.keep(book, 25), -2);
            Due.is("2: far too many lines", x.keep(book, Integer.MAX_VALUE), -2);
            Due.is("2: -1 lines", x.keep(book, -1), -3);
            Due.is("2: far too few lines", x.keep(book, Integer.MIN_VALUE), -3);
            Due.is("2: it stays, first line", x.read(book, 0), 1);
            Due.is("2: it stays, last line", x.read(book, 23), 1);
            Due.is("2: a shorter one", x.keep(book, 2), 0);
            Due.book("2: what it was is gone", x, book, 0, 0);
            x.keep(book, 24);
            Due.book("2: what it was is gone behind a shorter one", x, book, new int[24]);
            Due.is("2: one book alone", x.look(5), 1);
            Due.is("2: none of these is a FAULT", x.look(3), 0);
            x.lose(book);
            x.keep(book, -1);
            Due.is("2: it stays MISSING", x.lines(book), -100000 - book);
        }
    }

    private static void promise3Lose() {
        for (int book = Due.SIGNS; book <= Due.TOLLS; book++) {
            FlightBooks x = Due.withBooks(2, 2);
            x.write(book, 1, 1);
            Due.is("3: lost", x.lose(book), 1);
            Due.is("3: lost already", x.lose(book), 0);
            Due.is("3: MISSING", x.read(book, 1), -100000 - book);
            Due.is("3: the others are kept", x.look(5), 4);
            x.keep(book, 2);
            Due.book("3: a new one", x, book, 0, 0);
            x.keep(book, 0);
            Due.is("3: lost without lines", x.lose(book), 1);
        }
        Due.is("3: at first", new FlightBooks(1).lose(Due.GATES), 0);
    }

    private static void promise4Lines() {
        for (int book = Due.SIGNS; book <= Due.TOLLS; book++) {
            FlightBooks x = new FlightBooks(1);
            Due.fault("4: MISSING", x, 0, x.lines(book), -100000 - book);
            for (int lines = 0; lines <= 24; lines++) {
                x.keep(book, lines);
                Due.is("4: lines", x.lines(book), lines);
            }
        }
    }

    private static void promise5Read() {
        FlightBooks x = Due.withBooks(1, 24);
        for (int book = Due.SIGNS; book <= Due.TOLLS; book++) {
            x.write(book, 0, 1);
            x.write(book, 23, 1);
            Due.is("5: first line", x.read(book, 0), 1);
            Due.is("5: a line between", x.read(book, 12), 0);
            Due.is("5: last line, above the last chamber", x.read(book, 23), 1);
        }
        Due.is("5: reading is no FAULT", x.look(3), 0);
    }

    private static void written(int book, int v, int want) {
        FlightBooks x = Due.withBooks(1, 3);
        Due.is("6: write " + v + " to book " + book, x.write(book, 1, v), 0);
        Due.book("6: " + v, x, book, 0, want, 0);
        Due.is("6: the other books", x.tally((book + 1) % 5), 0);
    }

    private static void promise6Write() {
        written(Due.SIGNS, 65535, 65535);
        written(Due.SIGNS, 65536, 0);
        written(Due.SIGNS, 32768, 32768);
        written(Due.SIGNS, -1, 65535);
        written(Due.SIGNS, Integer.MIN_VALUE, 0);
        written(Due.SIGNS, Integer.MAX_VALUE, 65535);
        written(Due.LEVELS, 32767, 32767);
        written(Due.LEVELS, 32768, -32768);
        written(Due.LEVELS, -32768, -32768);
        written(Due.LEVELS, -32769, 32767);
        written(Due.LEVELS, 65536, 0);
        written(Due.LEVELS, Integer.MAX_VALUE, -1);
        written(Due.GATES, 1, 1);
        written(Due.GATES, 2, 0);
        written(Due.GATES, 3, 1);
        written(Due.GATES, -1, 1);
        written(Due.GATES, -2, 0);
        written(Due.GATES, Integer.MIN_VALUE, 0);
        written(Due.TOLLS, 127, 127);
        written(Due.TOLLS, 128, -128);
        written(Due.TOLLS, -128, -128);
        written(Due.TOLLS, -129, 127);
        written(Due.TOLLS, 256, 0);
        written(Due.TOLLS, Integer.MAX_VALUE, -1);
    }

    private static void promise6WriteLoads() {
        written(Due.LOADS, 16000, 16000);
        written(Due.LOADS, -16000, -16000);
        written(Due.LOADS, 7, 7);
        written(Due.LOADS, -1, -1);
        int[] refused = {16001, -16001, Integer.MAX_VALUE, Integer.MIN_VALUE};
        for (int v : refused) {
            FlightBooks x = new FlightBooks(1);
            Due.is("6: REFUSED ahead of a MISSING book", x.write(Due.LOADS, 0, v), Due.REFUSED);
            x.keep(Due.LOADS, 1);
            x.write(Due.LOADS, 0, 5);
            Due.is("6: REFUSED ahead of no such line", x.write(Due.LOADS, 1, v), Due.REFUSED);
            Due.is("6: REFUSED", x.write(Due.LOADS, 0, v), Due.REFUSED);
            Due.book("6: nothing is done", x, Due.LOADS, 5);
            Due.is("6: REFUSED is no FAULT", x.look(3), 0);
            Due.is("6: REFUSED is not the latest FAULT", x.look(4), 0);
        }
    }

    private static void changed(int book, int was, int how, int v, int want) {
        FlightBooks x = Due.withBooks(1, 3);
        x.write(book, 1, was);
        String what = "7: book " + book + " of " + was + " how " + how + " by " + v;
        Due.is(what, x.change(book, 1, how, v), want);
        Due.book(what, x, book, 0, want, 0);
        Due.is(what + ": no FAULT", x.look(3), 0);
    }

    private static void promise7ChangeNumbers() {
        changed(Due.SIGNS, 65535, 0, 1, 0);
        changed(Due.SIGNS, 0, 1, 1, 65535);
        changed(Due.SIGNS, 65535, 2, 77, 0);
        changed(Due.SIGNS, 0, 3, 77, 65535);
        changed(Due.SIGNS, 5, 0, Integer.MAX_VALUE, 4);
        changed(Due.SIGNS, 5, 1, Integer.MIN_VALUE, 5);
        changed(Due.LEVELS, 32767, 0, 1, -32768);
        changed(Due.LEVELS, -32768, 1, 1, 32767);
        changed(Due.LEVELS, 32767, 2, 77, -32768);
        changed(Due.LEVELS, -32768, 3, 77, 32767);
        changed(Due.LEVELS, -5, 0, Integer.MIN_VALUE, -5);
        changed(Due.LEVELS, 100, 1, 30, 70);
        changed(Due.TOLLS, 127, 0, 1, -128);
        changed(Due.TOLLS, -128, 1, 1, 127);
        changed(Due.TOLLS, 127, 2, 77, -128);
        changed(Due.TOLLS, -128, 3, 77, 127);
        changed(Due.TOLLS, 10, 1, 300, -34);
        changed(Due.TOLLS, -1, 0, Integer.MAX_VALUE, -2);
        int[] noHow = {Integer.MIN_VALUE, -1, 4, Integer.MAX_VALUE};
        for (int how : noHow) {
            for (int book = Due.SIGNS; book <= Due.TOLLS; book++) {
                FlightBooks x = new FlightBooks(1);
                Due.is("7: how ahead of MISSING", x.change(book, 0, how, 1), Due.REFUSED);
                x.keep(book, 1);
                Due.is("7: how ahead of the line", x.change(book, 1, how, 1), Due.REFUSED);
                Due.is("7: no such how", x.change(book, 0, how, 1), Due.REFUSED);
                Due.book("7: nothing is done", x, book, 0);
                Due.is("7: REFUSED is no FAULT", x.look(3), 0);
            }
        }
    }

    private static void promise7ChangeLoads() {
        changed(Due.LOADS, 3, 0, 16000, 16003);
        changed(Due.LOADS, 3, 0, -16000, -15997);
        changed(Due.LOADS, 3, 1, 16000, -15997);
        changed(Due.LOADS, 3, 1, -16000, 16003);
        changed(Due.LOADS, 3, 2, Integer.MAX_VALUE, 11);
        changed(Due.LOADS, 3, 3, Integer.MIN_VALUE, -5);
        int[] refused = {16001, -16001, Integer.MAX_VALUE, Integer.MIN_VALUE};
        for (int v : refused) {
            for (int how = 0; how <= 1; how++) {
                FlightBooks x = new FlightBooks(1);
                Due.is("7: v ahead of MISSING", x.change(Due.LOADS, 0, how, v), Due.REFUSED);
                x.keep(Due.LOADS, 1);
                Due.is("7: v ahead of the line", x.change(Due.LOADS, -1, how, v), Due.REFUSED);
                Due.is("7: v", x.change(Due.LOADS, 0, how, v), Due.REFUSED);
                Due.book("7: nothing is done", x, Due.LOADS, 0);
            }
        }
    }

    private static void promise7LoadsAreHeldWithinTheirBounds() {
        FlightBooks x = Due.withBooks(1, 2);
        for (int i = 1; i <= 125; i++) {
            Due.is("7: up", x.change(Due.LOADS, 0, 0, 16000), 16000 * i);
            Due.is("7: down", x.change(Due.LOADS, 1, 1, 16000), -16000 * i);
        }
        Due.is("7: not above", x.change(Due.LOADS, 0, 0, 1), 2000000);
        Due.is("7: not above", x.change(Due.LOADS, 0, 2, 0), 2000000);
        Due.is("7: not below", x.change(Due.LOADS, 1, 1, 1), -2000000);
        Due.is("7: not below", x.change(Due.LOADS, 1, 3, 0), -2000000);
        Due.is("7: from the top", x.change(Due.LOADS, 0, 1, 1), 1999999);
        Due.is("7: nearest", x.change(Due.LOADS, 0, 2, 0), 2000000);
        Due.is("7: from the bottom", x.change(Due.LOADS, 1, 0, 1), -1999999);
        Due.is("7: nearest", x.change(Due.LOADS, 1, 3, 0), -2000000);
        Due.is("7: an answer below -100000 may be no FAULT", x.look(3), 0);
    }

    private static void promise7ChangeGates() {
        int[][] oddAnswers = {{1, 1}, {0, 1}, {1, 0}, {1, 0}};
        int[][] evenAnswers = {{0, 1}, {0, 0}, {1, 0}, {0, 1}};
        int[] odd = {1, 3, -1, Integer.MAX_VALUE};
        int[] even = {0, 2, -2, Integer.MIN_VALUE};
        for (int how = 0; how <= 3; how++) {
            for (int was = 0; was <= 1; was++) {
                for (int i = 0; i < 4; i++) {
                    changed(Due.GATES, was, how, odd[i], oddAnswers[how][was]);
                    changed(Due.GATES, was, how, even[i], evenAnswers[how][was]);
                }
            }
        }
    }

    private static void promise8Tally() {
        FlightBooks x = new FlightBooks(1);
        for (int book = Due.SIGNS; book <= Due.TOLLS; book++) {
            Due.fault("8: MISSING", x, book, x.tally(book), -100000 - book);
        }
        int[] highest = {65535, 32767, 16000, 1, 127};
        int[] lowest = {0, -32768, -16000, 0, -128};
        for (int book = Due.SIGNS; book <= Due.TOLLS; book++) {
            x = new FlightBooks(1);
            x.keep(book, 0);
            Due.is("8: no lines", x.tally(book), 0);
            x.keep(book, 24);
            for (int line = 0; line < 24; line++) {
                x.write(book, line, highest[book]);
            }
            Due.is("8: highest", x.tally(book), 24 * highest[book]);
            for (int line = 0; line < 24; line++) {
                x.write(book, line, lowest[book]);
            }
            Due.is("8: lowest", x.tally(book), 24 * lowest[book]);
            x.write(book, 0, highest[book]);
            Due.is("8: unlike", x.tally(book), highest[book] + 23 * lowest[book]);
            Due.is("8: no FAULT", x.look(3), 0);
        }
    }

    private static void noSuchBook() {
        for (int book : NO_BOOKS) {
            FlightBooks x = Due.withBooks(2, 2);
            x.survey(1, 1);
            Due.is("2: no such BOOK", x.keep(book, 1), Due.REFUSED);
            Due.is("2: no such BOOK, ahead of -2", x.keep(book, 25), Due.REFUSED);
            Due.is("2: no such BOOK, ahead of -3", x.keep(book, -1), Due.REFUSED);
            Due.is("3: no such BOOK", x.lose(book), Due.REFUSED);
            Due.is("4: no such BOOK", x.lines(book), Due.REFUSED);
            Due.is("5: no such BOOK", x.read(book, 0), Due.REFUSED);
            Due.is("6: no such BOOK", x.write(book, 0, 1), Due.REFUSED);
            Due.is("7: no such BOOK", x.change(book, 0, 2, 1), Due.REFUSED);
            Due.is("8: no such BOOK", x.tally(book), Due.REFUSED);
            Due.is("9: no such BOOK to copy from", x.copy(book, 0), Due.REFUSED);
            Due.is("9: no such BOOK to copy to", x.copy(0, book), Due.REFUSED);
            Due.is("16: no such BOOK", x.note(book, 0, 0, 0), Due.REFUSED);
            Due.is("19: REFUSED is no FAULT", x.look(3), 0);
            Due.is("19: all are kept", x.look(5), 5);
        }
    }

    private static void faultsOfEveryBook() {
        int[] noLines = {Integer.MIN_VALUE, -1, 3, 24, 25, Integer.MAX_VALUE};
        for (int book = Due.SIGNS; book <= Due.TOLLS; book++) {
            int missing = -100000 - book;
            int noLine = -200000 - book;
            FlightBooks x = new FlightBooks(24);
            Due.fault("5: MISSING", x, 0, x.read(book, 0), missing);
            Due.fault("5: MISSING ahead of the line", x, 1, x.read(book, -1), missing);
            Due.fault("6: MISSING", x, 2, x.write(book, 0, 1), missing);
            Due.fault("7: MISSING", x, 3, x.change(book, 0, 2, 1), missing);
            x.keep(book, 3);
            for (int i = 0; i < noLines.length; i++) {
                int before = 4 + 3 * i;
                Due.fault("5: no line", x, before, x.read(book, noLines[i]), noLine);
                Due.fault("6: no line", x, before + 1, x.write(book, noLines[i], 1), noLine);
                Due.fault("7: no line", x, before + 2, x.change(book, noLines[i], 2, 1), noLine);
            }
            Due.book("6, 7: nothing is done", x, book, 0, 0, 0);
            x.keep(book, 0);
            Due.is("5: no line at all", x.read(book, 0), noLine);
        }
    }
}
