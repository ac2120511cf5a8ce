import java.io.IOException;

/** Promises 1 to 9: a test for each of their sentences that names a boundary. */
public final class BooksEdgesTest {
    private static final int LOWEST = Integer.MIN_VALUE;
    private static final int HIGHEST = Integer.MAX_VALUE;
    private static final int[] NO_BOOKS = {LOWEST, -1, 5, HIGHEST};

    private BooksEdgesTest() {
    }

    public static void main(String[] args) throws IllegalAccessException, IOException {
        Sentences.run(BooksEdgesTest.class);
    }

    // ---- 1: a new object

    @Says(promise = 1, value = "N is chambers, or the nearest of 1 .. 24.")
    static void p01ChambersWithin1And24() {
        for (int chambers = 1; chambers <= 24; chambers++) {
            Due.is("N of " + chambers, new FlightBooks(chambers).look(0), chambers);
        }
    }

    @Says(promise = 1, value = "N is chambers, or the nearest of 1 .. 24.")
    static void p01ChambersBelow1() {
        for (int chambers : new int[] {0, -1, -24, LOWEST}) {
            FlightBooks x = Due.withBooks(chambers, 2);
            Due.is("N of " + chambers, x.look(0), 1);
            Due.is("chamber 0 is the last one", x.sluice(0, 7), -7);
            Due.book("nothing goes on from it", x, Due.LEVELS, -7, 0);
            Due.refused("there is no chamber 1", x, x.sluice(1, 7));
        }
    }

    @Says(promise = 1, value = "N is chambers, or the nearest of 1 .. 24.")
    static void p01ChambersAbove24() {
        for (int chambers : new int[] {25, 100, HIGHEST}) {
            FlightBooks x = Due.withBooks(chambers, 24);
            Due.is("N of " + chambers, x.look(0), 24);
            Due.is("chamber 22 is not the last one", x.sluice(22, 7), -7);
            Due.is("line 23 got it", x.read(Due.LEVELS, 23), 7);
            Due.is("chamber 23 is the last one", x.sluice(23, 7), 0);
            Due.refused("there is no chamber 24", x, x.sluice(24, 7));
        }
    }

    // ---- 2: keep

    @Says(promise = 2, value = "A BOOK is a new one of so many lines, all 0 (what it was is gone): 0.")
    static void p02KeepWithin0And24() {
        for (int book = Due.SIGNS; book <= Due.TOLLS; book++) {
            for (int lines : new int[] {0, 1, 23, 24}) {
                FlightBooks x = new FlightBooks(1);
                Due.is("keep " + lines, x.keep(book, lines), 0);
                Due.book("all 0", x, book, new int[lines]);
                Due.is("no line beyond", x.read(book, lines), -200000 - book);
            }
        }
    }

    @Says(promise = 2, value = "A BOOK is a new one of so many lines, all 0 (what it was is gone): 0.")
    static void p02KeepWhatItWasIsGone() {
        for (int book = Due.SIGNS; book <= Due.TOLLS; book++) {
            FlightBooks x = new FlightBooks(1);
            Due.fill(x, book, 1, 1, 1);
            x.keep(book, 3);
            Due.book("as many lines", x, book, 0, 0, 0);
            Due.fill(x, book, 1, 1, 1);
            x.keep(book, 2);
            Due.book("fewer lines", x, book, 0, 0);
            x.keep(book, 4);
            Due.book("more lines, behind fewer", x, book, 0, 0, 0, 0);
            Due.fill(x, book, 1, 1, 1);
            x.keep(book, 0);
            x.keep(book, 3);
            Due.book("behind none", x, book, 0, 0, 0);
            Due.fill(x, book, 1, 1, 1);
            x.lose(book);
            x.keep(book, 3);
            Due.book("behind MISSING", x, book, 0, 0, 0);
        }
    }

    @Says(promise = 2, value = "-2: lines are above 24; -3: they are below 0 (the BOOK stays as it was).")
    static void p02KeepLinesAbove24() {
        for (int lines : new int[] {25, 26, 1000, HIGHEST}) {
            for (int book = Due.SIGNS; book <= Due.TOLLS; book++) {
                keptAsItWas(book, lines, -2);
            }
        }
    }

    @Says(promise = 2, value = "-2: lines are above 24; -3: they are below 0 (the BOOK stays as it was).")
    static void p02KeepLinesBelow0() {
        for (int lines : new int[] {-1, -2, -24, LOWEST}) {
            for (int book = Due.SIGNS; book <= Due.TOLLS; book++) {
                keptAsItWas(book, lines, -3);
            }
        }
    }

    private static void keptAsItWas(int book, int lines, int want) {
        String what = "keep(" + book + ", " + lines + ")";
        FlightBooks x = new FlightBooks(1);
        Due.is(what + " of a MISSING one", x.keep(book, lines), want);
        Due.is("it is MISSING", x.look(5), 0);
        x.keep(book, 0);
        Due.is(what + " of one without lines", x.keep(book, lines), want);
        Due.book("it has none", x, book);
        Due.fill(x, book, 1, 0, 1);
        Due.is(what + " of one with lines", x.keep(book, lines), want);
        Due.book("they are as they were", x, book, 1, 0, 1);
        Due.is("no FAULT", x.look(3), 0);
    }

    @Says(promise = 2, value = "REFUSED: there is no such BOOK (here and below).")
    static void p02KeepNoSuchBook() {
        for (int book : NO_BOOKS) {
            FlightBooks x = new FlightBooks(1);
            Due.refused("keep", x, x.keep(book, 1));
            Due.refused("keep, ahead of -2", x, x.keep(book, 25));
            Due.refused("keep, ahead of -3", x, x.keep(book, -1));
            Due.is("nothing is kept", x.look(5), 0);
        }
    }

    // ---- 3: lose

    @Says(promise = 3, value = "A BOOK is MISSING from now on: 1; 0 if it is already.")
    static void p03LoseABook() {
        for (int book = Due.SIGNS; book <= Due.TOLLS; book++) {
            for (int lines : new int[] {0, 1, 24}) {
                FlightBooks x = Due.withBooks(1, 1);
                x.keep(book, lines);
                Due.is("lose " + lines + " lines", x.lose(book), 1);
                Due.is("it is MISSING", x.read(book, 0), -100000 - book);
                Due.is("the others are not", x.look(5), 4);
            }
        }
    }

    @Says(promise = 3, value = "A BOOK is MISSING from now on: 1; 0 if it is already.")
    static void p03LoseWhatIsMissingAlready() {
        for (int book = Due.SIGNS; book <= Due.TOLLS; book++) {
            FlightBooks x = new FlightBooks(1);
            Due.is("MISSING at first", x.lose(book), 0);
            x.keep(book, 1);
            x.lose(book);
            Due.is("lost before", x.lose(book), 0);
            Due.is("lost before, again", x.lose(book), 0);
            Due.is("that is no FAULT", x.look(3), 0);
        }
    }

    @Says(promise = 2, value = "REFUSED: there is no such BOOK (here and below).")
    static void p03LoseNoSuchBook() {
        for (int book : NO_BOOKS) {
            FlightBooks x = Due.withBooks(1, 1);
            Due.refused("lose", x, x.lose(book));
            Due.is("all are kept", x.look(5), 5);
        }
    }

    // ---- 4: lines

    @Says(promise = 4, value = "How many lines a BOOK has; its FAULT.")
    static void p04LinesFromNoneTo24() {
        for (int book = Due.SIGNS; book <= Due.TOLLS; book++) {
            for (int lines = 0; lines <= 24; lines++) {
                FlightBooks x = new FlightBooks(1);
                x.keep(book, lines);
                Due.is("lines(" + book + ")", x.lines(book), lines);
                Due.is("that is no FAULT", x.look(3), 0);
            }
        }
    }

    @Says(promise = 4, value = "How many lines a BOOK has; its FAULT.")
    static void p04LinesOfAMissingBook() {
        for (int book = Due.SIGNS; book <= Due.TOLLS; book++) {
            FlightBooks x = new FlightBooks(1);
            Due.fault("MISSING at first", x, 0, x.lines(book), -100000 - book);
            x.keep(book, 24);
            x.lose(book);
            Due.fault("lost", x, 1, x.lines(book), -100000 - book);
        }
    }

    @Says(promise = 2, value = "REFUSED: there is no such BOOK (here and below).")
    static void p04LinesNoSuchBook() {
        for (int book : NO_BOOKS) {
            FlightBooks x = Due.withBooks(1, 1);
            Due.refused("lines", x, x.lines(book));
        }
    }

    // ---- 5: read

    @Says(promise = 5, value = "A line is READ: what it is.")
    static void p05ReadFirstAndLastLine() {
        for (int book = Due.SIGNS; book <= Due.TOLLS; book++) {
            FlightBooks x = new FlightBooks(1);
            x.keep(book, 24);
            x.write(book, 0, 1);
            x.write(book, 23, 1);
            Due.is("the first", x.read(book, 0), 1);
            Due.is("the second", x.read(book, 1), 0);
            Due.is("the last but one", x.read(book, 22), 0);
            Due.is("the last", x.read(book, 23), 1);
        }
    }

    @Says(promise = 5, value = "A line is READ: what it is.")
    static void p05ReadMissingBook() {
        for (int book = Due.SIGNS; book <= Due.TOLLS; book++) {
            FlightBooks x = new FlightBooks(1);
            Due.fault("read", x, 0, x.read(book, 0), -100000 - book);
        }
    }

    @Says(promise = 5, value = "A line is READ: what it is.")
    static void p05ReadNoSuchLine() {
        for (int book = Due.SIGNS; book <= Due.TOLLS; book++) {
            FlightBooks x = new FlightBooks(1);
            x.keep(book, 2);
            Due.fault("one beyond", x, 0, x.read(book, 2), -200000 - book);
            Due.fault("one below", x, 1, x.read(book, -1), -200000 - book);
            x.keep(book, 0);
            Due.fault("of none", x, 2, x.read(book, 0), -200000 - book);
        }
    }

    @Says(promise = 2, value = "REFUSED: there is no such BOOK (here and below).")
    static void p05ReadNoSuchBook() {
        for (int book : NO_BOOKS) {
            FlightBooks x = Due.withBooks(1, 1);
            Due.refused("read", x, x.read(book, 0));
            Due.refused("read, ahead of the line", x, x.read(book, 1));
        }
    }

    // ---- 6: write

    @Says(promise = 6, value = "A line is WRITTEN: 0.")
    static void p06WriteFirstAndLastLineAlone() {
        for (int book = Due.SIGNS; book <= Due.TOLLS; book++) {
            FlightBooks x = Due.withBooks(1, 3);
            Due.is("the first", x.write(book, 0, 1), 0);
            Due.book("the first", x, book, 1, 0, 0);
            Due.is("the last", x.write(book, 2, 1), 0);
            Due.book("the last", x, book, 1, 0, 1);
            Due.is("no other book", x.tally((book + 1) % 5), 0);
        }
    }

    @Says(promise = 6, value = "A line is WRITTEN: 0.")
    static void p06WriteMissingBook() {
        for (int book = Due.SIGNS; book <= Due.TOLLS; book++) {
            FlightBooks x = new FlightBooks(1);
            Due.fault("write", x, 0, x.write(book, 0, 1), -100000 - book);
            Due.is("it stays MISSING", x.look(5), 0);
        }
    }

    @Says(promise = 6, value = "A line is WRITTEN: 0.")
    static void p06WriteNoSuchLine() {
        for (int book = Due.SIGNS; book <= Due.TOLLS; book++) {
            FlightBooks x = new FlightBooks(24);
            x.keep(book, 2);
            Due.fault("one beyond", x, 0, x.write(book, 2, 1), -200000 - book);
            Due.fault("one below", x, 1, x.write(book, -1, 1), -200000 - book);
            Due.book("nothing is done", x, book, 0, 0);
            x.keep(book, 0);
            Due.fault("of none", x, 2, x.write(book, 0, 1), -200000 - book);
        }
    }

    @Says(promise = 6, value = "REFUSED also: for LOADS v is not -16000 .. 16000.")
    static void p06WriteLoadsAtTheirEnds() {
        for (int v : new int[] {-16000, -15999, 15999, 16000}) {
            FlightBooks x = Due.withBooks(1, 1);
            Due.is("write " + v, x.write(Due.LOADS, 0, v), 0);
            Due.is("it is so", x.read(Due.LOADS, 0), v);
        }
    }

    @Says(promise = 6, value = "REFUSED also: for LOADS v is not -16000 .. 16000.")
    static void p06WriteLoadsBeyondTheirEnds() {
        for (int v : new int[] {-16001, 16001, -2000000, 2000000, LOWEST, HIGHEST}) {
            FlightBooks x = new FlightBooks(1);
            Due.refused(v + ", ahead of MISSING", x, x.write(Due.LOADS, 0, v));
            Due.fill(x, Due.LOADS, 5);
            Due.refused(v + ", ahead of no such line", x, x.write(Due.LOADS, 1, v));
            Due.refused("write " + v, x, x.write(Due.LOADS, 0, v));
            Due.book("nothing is done", x, Due.LOADS, 5);
        }
    }

    @Says(promise = 6, value = "REFUSED also: for LOADS v is not -16000 .. 16000.")
    static void p06WriteOtherBooksBeyondTheEndsOfLoads() {
        int[] above = {16001, 16001, 0, 1, -127};
        int[] below = {49535, -16001, 0, 1, 127};
        for (int book : new int[] {Due.SIGNS, Due.LEVELS, Due.GATES, Due.TOLLS}) {
            FlightBooks x = Due.withBooks(1, 1);
            Due.is("16001", x.write(book, 0, 16001), 0);
            Due.is("16001 in book " + book, x.read(book, 0), above[book]);
            Due.is("-16001", x.write(book, 0, -16001), 0);
            Due.is("-16001 in book " + book, x.read(book, 0), below[book]);
        }
    }

    @Says(promise = 2, value = "REFUSED: there is no such BOOK (here and below).")
    static void p06WriteNoSuchBook() {
        for (int book : NO_BOOKS) {
            FlightBooks x = Due.withBooks(1, 1);
            Due.refused("write", x, x.write(book, 0, 1));
            for (int kept = Due.SIGNS; kept <= Due.TOLLS; kept++) {
                Due.book("nothing is done", x, kept, 0);
            }
        }
    }

    // ---- 7: change

    private static void changed(int book, int was, int how, int v, int want) {
        FlightBooks x = Due.withBooks(1, 3);
        x.write(book, 1, was);
        String what = "change(" + book + ", 1, " + how + ", " + v + ") of " + was;
        Due.is(what, x.change(book, 1, how, v), want);
        Due.book(what, x, book, 0, want, 0);
        Due.is(what + ": no FAULT", x.look(3), 0);
    }

    @Says(promise = 7, value = "how 0: more by v; 1: less by v; 2: more by 1; 3: less by 1.")
    static void p07ChangeSignsBeyondTheirEnds() {
        changed(Due.SIGNS, 65535, 0, 1, 0);
        changed(Due.SIGNS, 0, 0, -1, 65535);
        changed(Due.SIGNS, 0, 1, 1, 65535);
        changed(Due.SIGNS, 65535, 1, -1, 0);
        changed(Due.SIGNS, 65535, 2, 9, 0);
        changed(Due.SIGNS, 0, 3, 9, 65535);
        changed(Due.SIGNS, 32767, 2, 9, 32768);
        changed(Due.SIGNS, 65535, 0, 65535, 65534);
        changed(Due.SIGNS, 1, 0, HIGHEST, 0);
        changed(Due.SIGNS, 1, 1, LOWEST, 1);
    }

    @Says(promise = 7, value = "how 0: more by v; 1: less by v; 2: more by 1; 3: less by 1.")
    static void p07ChangeLevelsBeyondTheirEnds() {
        changed(Due.LEVELS, 32767, 0, 1, -32768);
        changed(Due.LEVELS, -32768, 0, -1, 32767);
        changed(Due.LEVELS, -32768, 1, 1, 32767);
        changed(Due.LEVELS, 32767, 1, -1, -32768);
        changed(Due.LEVELS, 32767, 2, 9, -32768);
        changed(Due.LEVELS, -32768, 3, 9, 32767);
        changed(Due.LEVELS, 0, 3, 9, -1);
        changed(Due.LEVELS, -32768, 0, LOWEST, -32768);
        changed(Due.LEVELS, 32767, 0, HIGHEST, 32766);
        changed(Due.LEVELS, 0, 1, LOWEST, 0);
    }

    @Says(promise = 7, value = "how 0: more by v; 1: less by v; 2: more by 1; 3: less by 1.")
    static void p07ChangeTollsBeyondTheirEnds() {
        changed(Due.TOLLS, 127, 0, 1, -128);
        changed(Due.TOLLS, -128, 0, -1, 127);
        changed(Due.TOLLS, -128, 1, 1, 127);
        changed(Due.TOLLS, 127, 1, -1, -128);
        changed(Due.TOLLS, 127, 2, 9, -128);
        changed(Due.TOLLS, -128, 3, 9, 127);
        changed(Due.TOLLS, 5, 0, 256, 5);
        changed(Due.TOLLS, 127, 0, HIGHEST, 126);
        changed(Due.TOLLS, -128, 1, LOWEST, -128);
    }

    @Says(promise = 7, value = "(Of LOADS v counts eighths, 1 is a whole: 8 eighths.")
    static void p07ChangeLoadsByEighthsAndWholes() {
        changed(Due.LOADS, 3, 0, 1, 4);
        changed(Due.LOADS, 3, 1, 1, 2);
        changed(Due.LOADS, 3, 2, 1, 11);
        changed(Due.LOADS, 3, 3, 1, -5);
    }

    @Says(promise = 7, value = "Of GATES 0: open, if it is, or v is odd;")
    static void p07ChangeGatesHow0() {
        gates(0, new int[] {0, 1}, new int[] {1, 1});
    }

    @Says(promise = 7, value = "1: open, if it is, and v is odd;")
    static void p07ChangeGatesHow1() {
        gates(1, new int[] {0, 0}, new int[] {0, 1});
    }

    @Says(promise = 7, value = "2: the other way round;")
    static void p07ChangeGatesHow2() {
        gates(2, new int[] {1, 0}, new int[] {1, 0});
    }

    @Says(promise = 7, value = "3: the other way round, if v is odd.)")
    static void p07ChangeGatesHow3() {
        gates(3, new int[] {0, 1}, new int[] {1, 0});
    }

    /** What a gate is then, if it was shut and if it was open. */
    private static void gates(int how, int[] ifEven, int[] ifOdd) {
        for (int was = 0; was <= 1; was++) {
            for (int v : new int[] {0, 2, -2, 16002, LOWEST, HIGHEST - 1}) {
                changed(Due.GATES, was, how, v, ifEven[was]);
            }
            for (int v : new int[] {1, 3, -1, -3, 16001, LOWEST + 1, HIGHEST}) {
                changed(Due.GATES, was, how, v, ifOdd[was]);
            }
        }
    }

    @Says(promise = 7, value = "A line is CHANGED: what it is then.")
    static void p07ChangeMissingBook() {
        for (int book = Due.SIGNS; book <= Due.TOLLS; book++) {
            for (int how = 0; how <= 3; how++) {
                FlightBooks x = new FlightBooks(1);
                Due.fault("how " + how, x, 0, x.change(book, 0, how, 1), -100000 - book);
                Due.is("it stays MISSING", x.look(5), 0);
            }
        }
    }

    @Says(promise = 7, value = "A line is CHANGED: what it is then.")
    static void p07ChangeNoSuchLine() {
        for (int book = Due.SIGNS; book <= Due.TOLLS; book++) {
            for (int how = 0; how <= 3; how++) {
                FlightBooks x = new FlightBooks(24);
                x.keep(book, 2);
                Due.fault("one beyond", x, 0, x.change(book, 2, how, 1), -200000 - book);
                Due.fault("one below", x, 1, x.change(book, -1, how, 1), -200000 - book);
                Due.book("nothing is done", x, book, 0, 0);
                x.keep(book, 0);
                Due.fault("of none", x, 2, x.change(book, 0, how, 1), -200000 - book);
            }
        }
    }

    @Says(promise = 7, value = "REFUSED also: there is no such how;")
    static void p07ChangeNoSuchHow() {
        for (int how : new int[] {LOWEST, -1, 4, HIGHEST}) {
            for (int book = Due.SIGNS; book <= Due.TOLLS; book++) {
                FlightBooks x = new FlightBooks(1);
                Due.refused("ahead of MISSING", x, x.change(book, 0, how, 1));
                Due.fill(x, book, 1);
                Due.refused("ahead of no such line", x, x.change(book, 1, how, 1));
                Due.refused("how " + how, x, x.change(book, 0, how, 1));
                Due.book("nothing is done", x, book, 1);
            }
        }
    }

    @Says(promise = 7, value = "for LOADS, how 0 and 1, v is not -16000 .. 16000.")
    static void p07ChangeLoadsAtTheEndsOfV() {
        changed(Due.LOADS, 5, 0, 16000, 16005);
        changed(Due.LOADS, 5, 0, -16000, -15995);
        changed(Due.LOADS, 5, 1, 16000, -15995);
        changed(Due.LOADS, 5, 1, -16000, 16005);
    }

    @Says(promise = 7, value = "for LOADS, how 0 and 1, v is not -16000 .. 16000.")
    static void p07ChangeLoadsBeyondTheEndsOfV() {
        for (int v : new int[] {-16001, 16001, LOWEST, HIGHEST}) {
            for (int how = 0; how <= 1; how++) {
                FlightBooks x = new FlightBooks(1);
                Due.refused("ahead of MISSING", x, x.change(Due.LOADS, 0, how, v));
                Due.fill(x, Due.LOADS, 5);
                Due.refused("ahead of no such line", x, x.change(Due.LOADS, 1, how, v));
                Due.refused("how " + how + " by " + v, x, x.change(Due.LOADS, 0, how, v));
                Due.book("nothing is done", x, Due.LOADS, 5);
            }
        }
    }

    @Says(promise = 7, value = "for LOADS, how 0 and 1, v is not -16000 .. 16000.")
    static void p07ChangeLoadsByAWholeWithAnyV() {
        for (int v : new int[] {-16001, 16001, LOWEST, HIGHEST}) {
            changed(Due.LOADS, 5, 2, v, 13);
            changed(Due.LOADS, 5, 3, v, -3);
        }
    }

    @Says(promise = 7, value = "for LOADS, how 0 and 1, v is not -16000 .. 16000.")
    static void p07ChangeOtherBooksBeyondTheEndsOfV() {
        changed(Due.SIGNS, 0, 0, 16001, 16001);
        changed(Due.SIGNS, 0, 1, 16001, 49535);
        changed(Due.LEVELS, 0, 0, -16001, -16001);
        changed(Due.LEVELS, 0, 1, -16001, 16001);
        changed(Due.GATES, 0, 0, 16001, 1);
        changed(Due.GATES, 1, 1, -16001, 1);
        changed(Due.TOLLS, 0, 0, 16001, -127);
        changed(Due.TOLLS, 0, 1, 16001, 127);
    }

    @Says(promise = 2, value = "REFUSED: there is no such BOOK (here and below).")
    static void p07ChangeNoSuchBook() {
        for (int book : NO_BOOKS) {
            for (int how = 0; how <= 3; how++) {
                FlightBooks x = Due.withBooks(1, 1);
                Due.refused("change", x, x.change(book, 0, how, 1));
            }
        }
    }

    // ---- 8: tally

    @Says(promise = 8, value = "All lines of a BOOK are READ, from 0 on: the sum (of LOADS in eighths).")
    static void p08TallyOfNoLines() {
        for (int book = Due.SIGNS; book <= Due.TOLLS; book++) {
            FlightBooks x = Due.withBooks(1, 1);
            Due.fill(x, book, 1, 1);
            x.keep(book, 0);
            Due.is("tally(" + book + ")", x.tally(book), 0);
            Due.is("that is no FAULT", x.look(3), 0);
        }
    }

    @Says(promise = 8, value = "All lines of a BOOK are READ, from 0 on: the sum (of LOADS in eighths).")
    static void p08TallyOf24LinesAtTheirEnds() {
        int[] highest = {65535, 32767, 16000, 1, 127};
        int[] lowest = {0, -32768, -16000, 0, -128};
        for (int book = Due.SIGNS; book <= Due.TOLLS; book++) {
            FlightBooks x = new FlightBooks(1);
            x.keep(book, 24);
            for (int line = 0; line < 24; line++) {
                x.write(book, line, highest[book]);
            }
            Due.is("the highest is not cut", x.tally(book), 24 * highest[book]);
            for (int line = 0; line < 24; line++) {
                x.write(book, line, lowest[book]);
            }
            Due.is("the lowest is not cut", x.tally(book), 24 * lowest[book]);
        }
    }

    @Says(promise = 8, value = "All lines of a BOOK are READ, from 0 on: the sum (of LOADS in eighths).")
    static void p08TallyOfLoadsIsBeyondTheEndOfALine() {
        FlightBooks x = Due.withBooks(1, 3);
        Due.load(x, 0, 2000000);
        Due.load(x, 1, 2000000);
        Due.is("above", x.tally(Due.LOADS), 4000000);
        FlightBooks y = Due.withBooks(1, 3);
        Due.load(y, 1, -2000000);
        Due.load(y, 2, -2000000);
        Due.is("below", y.tally(Due.LOADS), -4000000);
    }

    @Says(promise = 8, value = "All lines of a BOOK are READ, from 0 on: the sum (of LOADS in eighths).")
    static void p08TallyOfAMissingBook() {
        for (int book = Due.SIGNS; book <= Due.TOLLS; book++) {
            FlightBooks x = new FlightBooks(1);
            Due.fault("MISSING at first", x, 0, x.tally(book), -100000 - book);
            Due.fill(x, book, 1, 1);
            x.lose(book);
            Due.fault("lost", x, 1, x.tally(book), -100000 - book);
        }
    }

    @Says(promise = 2, value = "REFUSED: there is no such BOOK (here and below).")
    static void p08TallyNoSuchBook() {
        for (int book : NO_BOOKS) {
            FlightBooks x = Due.withBooks(1, 1);
            Due.refused("tally", x, x.tally(book));
        }
    }

    // ---- 9: copy

    @Says(promise = 9, value = "How many lines one BOOK has; then each of them is READ, from 0 on, "
        + "and WRITTEN to the same line of another one")
    static void p09CopyOfNoLines() {
        for (int from = Due.SIGNS; from <= Due.TOLLS; from++) {
            int to = (from + 1) % 5;
            FlightBooks x = new FlightBooks(1);
            x.keep(from, 0);
            Due.is("to a MISSING one", x.copy(from, to), 0);
            Due.is("it stays MISSING", x.look(5), 1);
            x.keep(to, 0);
            Due.is("to one without lines", x.copy(from, to), 0);
            Due.fill(x, to, 1, 1);
            Due.is("to one with lines", x.copy(from, to), 0);
            Due.book("they stay", x, to, 1, 1);
            Due.is("no FAULT", x.look(3), 0);
        }
    }

    @Says(promise = 9, value = "How many lines one BOOK has; then each of them is READ, from 0 on, "
        + "and WRITTEN to the same line of another one")
    static void p09CopyToAsManyLines() {
        for (int from = Due.SIGNS; from <= Due.TOLLS; from++) {
            for (int to = Due.SIGNS; to <= Due.TOLLS; to++) {
                if (from != to) {
                    FlightBooks x = Due.withBooks(1, 24);
                    x.write(from, 0, 1);
                    x.write(from, 23, 1);
                    Due.is("copy(" + from + ", " + to + ")", x.copy(from, to), 24);
                    Due.is("the first", x.read(to, 0), 1);
                    Due.is("the last", x.read(to, 23), 1);
                    Due.is("those between", x.tally(to), 2);
                    Due.is("the one is as it was", x.tally(from), 2);
                }
            }
        }
    }

    @Says(promise = 9, value = "How many lines one BOOK has; then each of them is READ, from 0 on, "
        + "and WRITTEN to the same line of another one")
    static void p09CopyToMoreLines() {
        FlightBooks x = new FlightBooks(1);
        Due.fill(x, Due.SIGNS, 4, 5);
        Due.fill(x, Due.LEVELS, 1, 2, 3);
        Due.is("how many", x.copy(Due.SIGNS, Due.LEVELS), 2);
        Due.book("the line beyond stays", x, Due.LEVELS, 4, 5, 3);
    }

    @Says(promise = 9, value = "How many lines one BOOK has; then each of them is READ, from 0 on, "
        + "and WRITTEN to the same line of another one")
    static void p09CopyToFewerLines() {
        for (int from = Due.SIGNS; from <= Due.TOLLS; from++) {
            int to = (from + 3) % 5;
            FlightBooks x = new FlightBooks(1);
            Due.fill(x, from, 1, 1, 1);
            x.keep(to, 2);
            Due.fault("no line 2", x, 0, x.copy(from, to), -200000 - to);
            Due.book("what was ahead is done", x, to, 1, 1);
            Due.book("the one is as it was", x, from, 1, 1, 1);
            x.keep(to, 0);
            Due.fault("no line 0", x, 1, x.copy(from, to), -200000 - to);
        }
    }

    @Says(promise = 9, value = "How many lines one BOOK has; then each of them is READ, from 0 on, "
        + "and WRITTEN to the same line of another one")
    static void p09CopyOfAMissingBook() {
        for (int from = Due.SIGNS; from <= Due.TOLLS; from++) {
            int to = (from + 2) % 5;
            FlightBooks x = new FlightBooks(1);
            Due.fault("both are MISSING", x, 0, x.copy(from, to), -100000 - from);
            Due.fill(x, to, 1, 1);
            Due.fault("one is MISSING", x, 1, x.copy(from, to), -100000 - from);
            Due.book("the other is as it was", x, to, 1, 1);
        }
    }

    @Says(promise = 9, value = "How many lines one BOOK has; then each of them is READ, from 0 on, "
        + "and WRITTEN to the same line of another one")
    static void p09CopyToAMissingBook() {
        for (int from = Due.SIGNS; from <= Due.TOLLS; from++) {
            int to = (from + 4) % 5;
            FlightBooks x = new FlightBooks(1);
            Due.fill(x, from, 1);
            Due.fault("the other is MISSING", x, 0, x.copy(from, to), -100000 - to);
            Due.is("it stays MISSING", x.look(5), 1);
        }
    }

    private static void copied(int from, int v, int to, int want) {
        FlightBooks x = Due.withBooks(1, 2);
        if (from == Due.LOADS) {
            Due.load(x, 1, v);
        } else {
            x.write(from, 1, v);
        }
        String what = v + " from book " + from + " to book " + to;
        Due.is(what, x.copy(from, to), 2);
        Due.book(what, x, to, 0, want);
    }

    @Says(promise = 9, value = "what comes to LOADS is the nearest of -16000 .. 16000")
    static void p09CopyToLoads() {
        copied(Due.SIGNS, 15999, Due.LOADS, 15999);
        copied(Due.SIGNS, 16000, Due.LOADS, 16000);
        copied(Due.SIGNS, 16001, Due.LOADS, 16000);
        copied(Due.SIGNS, 65535, Due.LOADS, 16000);
        copied(Due.LEVELS, 16001, Due.LOADS, 16000);
        copied(Due.LEVELS, 32767, Due.LOADS, 16000);
        copied(Due.LEVELS, -15999, Due.LOADS, -15999);
        copied(Due.LEVELS, -16000, Due.LOADS, -16000);
        copied(Due.LEVELS, -16001, Due.LOADS, -16000);
        copied(Due.LEVELS, -32768, Due.LOADS, -16000);
        copied(Due.GATES, 1, Due.LOADS, 1);
        copied(Due.TOLLS, -128, Due.LOADS, -128);
        copied(Due.TOLLS, 127, Due.LOADS, 127);
    }

    @Says(promise = 9, value = "(LOADS as eighths;")
    static void p09CopyOfLoadsIsCutToTheOtherBooksBits() {
        copied(Due.LOADS, 7, Due.SIGNS, 7);
        copied(Due.LOADS, 65536, Due.SIGNS, 0);
        copied(Due.LOADS, -1, Due.SIGNS, 65535);
        copied(Due.LOADS, 2000000, Due.SIGNS, 33920);
        copied(Due.LOADS, 32767, Due.LEVELS, 32767);
        copied(Due.LOADS, 32768, Due.LEVELS, -32768);
        copied(Due.LOADS, -32769, Due.LEVELS, 32767);
        copied(Due.LOADS, 16001, Due.GATES, 1);
        copied(Due.LOADS, -7, Due.GATES, 1);
        copied(Due.LOADS, -8, Due.GATES, 0);
        copied(Due.LOADS, 128, Due.TOLLS, -128);
        copied(Due.LOADS, -129, Due.TOLLS, 127);
    }

    @Says(promise = 0, value = "in SIGNS, LEVELS, TOLLS the lowest ones count (with the sign, where it has one)")
    static void p09CopyBetweenTheOthersIsCut() {
        copied(Due.SIGNS, 32768, Due.LEVELS, -32768);
        copied(Due.SIGNS, 65535, Due.LEVELS, -1);
        copied(Due.SIGNS, 128, Due.TOLLS, -128);
        copied(Due.SIGNS, 65534, Due.GATES, 0);
        copied(Due.LEVELS, -1, Due.SIGNS, 65535);
        copied(Due.LEVELS, -129, Due.TOLLS, 127);
        copied(Due.LEVELS, -1, Due.GATES, 1);
        copied(Due.TOLLS, -1, Due.SIGNS, 65535);
        copied(Due.TOLLS, -128, Due.LEVELS, -128);
        copied(Due.TOLLS, -127, Due.GATES, 1);
    }

    @Says(promise = 9, value = "REFUSED also: both are one.")
    static void p09CopyOfABookToItself() {
        for (int book = Due.SIGNS; book <= Due.TOLLS; book++) {
            FlightBooks x = new FlightBooks(1);
            Due.refused("ahead of MISSING", x, x.copy(book, book));
            x.keep(book, 0);
            Due.refused("without lines", x, x.copy(book, book));
            Due.fill(x, book, 1, 1);
            Due.refused("with lines", x, x.copy(book, book));
            Due.book("they stay", x, book, 1, 1);
        }
    }

    @Says(promise = 9, value = "REFUSED also: both are one.")
    static void p09CopyOfHighLoadsToThemselves() {
        FlightBooks x = Due.withBooks(1, 1);
        Due.load(x, 0, 16001);
        Due.refused("both are LOADS", x, x.copy(Due.LOADS, Due.LOADS));
        Due.book("the load stays", x, Due.LOADS, 16001);
    }

    @Says(promise = 2, value = "REFUSED: there is no such BOOK (here and below).")
    static void p09CopyNoSuchBook() {
        for (int book : NO_BOOKS) {
            FlightBooks x = new FlightBooks(1);
            Due.refused("from it, ahead of MISSING", x, x.copy(book, Due.SIGNS));
            Due.refused("to it, ahead of MISSING", x, x.copy(Due.SIGNS, book));
            Due.refused("both", x, x.copy(book, book));
            Due.fill(x, Due.SIGNS, 1, 1);
            Due.refused("from it", x, x.copy(book, Due.SIGNS));
            Due.refused("to it", x, x.copy(Due.SIGNS, book));
            Due.book("nothing is done", x, Due.SIGNS, 1, 1);
        }
    }
}
