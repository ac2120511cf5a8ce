import java.io.IOException;

/** The section "Terms": a test for each of its sentences that names a boundary. */
public final class TermsEdgesTest {
    private static final int LOWEST = Integer.MIN_VALUE;
    private static final int HIGHEST = Integer.MAX_VALUE;

    private TermsEdgesTest() {
    }

    public static void main(String[] args) throws IllegalAccessException, IOException {
        Sentences.run(TermsEdgesTest.class);
    }

    @Says(promise = 0, value = "CHAMBERS are 0 .. N - 1.")
    static void chambersEndAtNLessOne() {
        for (int n : new int[] {1, 2, 23, 24}) {
            FlightBooks x = Due.withBooks(n, 24);
            Due.is("the first of " + n, x.shut(0), 0);
            Due.is("the last of " + n, x.shut(n - 1), 0);
            Due.refused("one beyond the last of " + n, x, x.shut(n));
            Due.refused("one below the first of " + n, x, x.shut(-1));
        }
    }

    @Says(promise = 0, value = "BOOKS are 0 SIGNS (of 16 bits, 0 .. 65535), 1 LEVELS (of 16 bits with sign), "
        + "2 LOADS (fractions, told and answered in eighths), 3 GATES (0 shut, 1 open), "
        + "4 TOLLS (of 8 bits with sign).")
    static void booksEndAt4() {
        FlightBooks x = new FlightBooks(1);
        Due.is("the first", x.keep(0, 1), 0);
        Due.is("the last", x.keep(4, 1), 0);
        Due.refused("one beyond the last", x, x.keep(5, 1));
        Due.refused("one below the first", x, x.keep(-1, 1));
        Due.is("two of them are kept", x.look(5), 2);
    }

    @Says(promise = 0, value = "A BOOK is MISSING (as all are at first), "
        + "or has LINES 0, 1, .. (at most 24; there may be none): line c is of chamber c.")
    static void booksAreMissingAtFirst() {
        for (int book = Due.SIGNS; book <= Due.TOLLS; book++) {
            Due.is("lines(" + book + ")", new FlightBooks(24).lines(book), -100000 - book);
        }
    }

    @Says(promise = 0, value = "or has LINES 0, 1, .. (at most 24; there may be none)")
    static void linesEndAt23() {
        for (int book = Due.SIGNS; book <= Due.TOLLS; book++) {
            FlightBooks x = new FlightBooks(1);
            x.keep(book, 24);
            Due.is("the first line of book " + book, x.read(book, 0), 0);
            Due.is("the last line of book " + book, x.read(book, 23), 0);
            Due.fault("one beyond the last", x, 0, x.read(book, 24), -200000 - book);
            Due.fault("one below the first", x, 1, x.read(book, -1), -200000 - book);
        }
    }

    @Says(promise = 0, value = "or has LINES 0, 1, .. (at most 24; there may be none)")
    static void linesMayBeNone() {
        for (int book = Due.SIGNS; book <= Due.TOLLS; book++) {
            FlightBooks x = new FlightBooks(1);
            x.keep(book, 0);
            Due.is("it is not MISSING", x.lines(book), 0);
            Due.is("it is kept", x.look(5), 1);
            Due.fault("no line of book " + book, x, 0, x.read(book, 0), -200000 - book);
        }
    }

    @Says(promise = 0, value = "line c is of chamber c.")
    static void linesMayBeMoreOrFewerThanChambers() {
        FlightBooks more = Due.withBooks(1, 2);
        more.write(Due.GATES, 1, 1);
        Due.is("the line beyond the chambers", more.read(Due.GATES, 1), 1);
        Due.is("the gate of chamber 0", more.shut(0), 0);
        Due.refused("no chamber of that line", more, more.shut(1));
        FlightBooks fewer = Due.withBooks(2, 1);
        Due.fault("no line of that chamber", fewer, 0, fewer.shut(1), -200003);
    }

    private static void becomes(int book, int v, int want) {
        FlightBooks x = new FlightBooks(1);
        x.keep(book, 1);
        Due.is("write " + v, x.write(book, 0, v), 0);
        Due.is(v + " in book " + book, x.read(book, 0), want);
        x.write(book, 0, 0);
        Due.is("0 more by " + v + " in book " + book, x.change(book, 0, 0, v), want);
    }

    @Says(promise = 0, value = "in SIGNS, LEVELS, TOLLS the lowest ones count (with the sign, where it has one)")
    static void signsAreCutTo16Bits() {
        becomes(Due.SIGNS, 0, 0);
        becomes(Due.SIGNS, -1, 65535);
        becomes(Due.SIGNS, 32767, 32767);
        becomes(Due.SIGNS, 32768, 32768);
        becomes(Due.SIGNS, 65535, 65535);
        becomes(Due.SIGNS, 65536, 0);
        becomes(Due.SIGNS, 65537, 1);
        becomes(Due.SIGNS, -65536, 0);
        becomes(Due.SIGNS, -65537, 65535);
        becomes(Due.SIGNS, LOWEST, 0);
        becomes(Due.SIGNS, HIGHEST, 65535);
    }

    @Says(promise = 0, value = "in SIGNS, LEVELS, TOLLS the lowest ones count (with the sign, where it has one)")
    static void levelsAreCutTo16BitsWithSign() {
        becomes(Due.LEVELS, -1, -1);
        becomes(Due.LEVELS, 32767, 32767);
        becomes(Due.LEVELS, 32768, -32768);
        becomes(Due.LEVELS, -32768, -32768);
        becomes(Due.LEVELS, -32769, 32767);
        becomes(Due.LEVELS, 65535, -1);
        becomes(Due.LEVELS, 65536, 0);
        becomes(Due.LEVELS, LOWEST, 0);
        becomes(Due.LEVELS, HIGHEST, -1);
    }

    @Says(promise = 0, value = "in SIGNS, LEVELS, TOLLS the lowest ones count (with the sign, where it has one)")
    static void tollsAreCutTo8BitsWithSign() {
        becomes(Due.TOLLS, -1, -1);
        becomes(Due.TOLLS, 127, 127);
        becomes(Due.TOLLS, 128, -128);
        becomes(Due.TOLLS, -128, -128);
        becomes(Due.TOLLS, -129, 127);
        becomes(Due.TOLLS, 255, -1);
        becomes(Due.TOLLS, 256, 0);
        becomes(Due.TOLLS, 32767, -1);
        becomes(Due.TOLLS, LOWEST, 0);
        becomes(Due.TOLLS, HIGHEST, -1);
    }

    @Says(promise = 0, value = "GATES are written 1 for an odd number, else 0")
    static void gatesAreOpenForOddNumbers() {
        becomes(Due.GATES, 0, 0);
        becomes(Due.GATES, 1, 1);
        becomes(Due.GATES, 2, 0);
        becomes(Due.GATES, 3, 1);
        becomes(Due.GATES, -1, 1);
        becomes(Due.GATES, -2, 0);
        becomes(Due.GATES, -3, 1);
        becomes(Due.GATES, LOWEST, 0);
        becomes(Due.GATES, LOWEST + 1, 1);
        becomes(Due.GATES, HIGHEST, 1);
        becomes(Due.GATES, HIGHEST - 1, 0);
    }

    @Says(promise = 0, value = "LOADS have the nearest of -2000000 .. 2000000 eighths.")
    static void loadsEndAt2000000() {
        FlightBooks x = Due.withBooks(1, 1);
        Due.load(x, 0, 1999999);
        Due.is("one below the end", x.read(Due.LOADS, 0), 1999999);
        Due.is("the end", x.change(Due.LOADS, 0, 0, 1), 2000000);
        Due.is("one beyond", x.change(Due.LOADS, 0, 0, 1), 2000000);
        Due.is("far beyond", x.change(Due.LOADS, 0, 0, 16000), 2000000);
        Due.is("a whole beyond", x.change(Due.LOADS, 0, 2, 0), 2000000);
        Due.is("back from the end", x.change(Due.LOADS, 0, 1, 1), 1999999);
        Due.is("a part of it beyond", x.change(Due.LOADS, 0, 0, 16000), 2000000);
        Due.is("less by a number below 0", x.change(Due.LOADS, 0, 1, -1), 2000000);
    }

    @Says(promise = 0, value = "LOADS have the nearest of -2000000 .. 2000000 eighths.")
    static void loadsEndAtLess2000000() {
        FlightBooks x = Due.withBooks(1, 1);
        Due.load(x, 0, -1999999);
        Due.is("one above the end", x.read(Due.LOADS, 0), -1999999);
        Due.is("the end", x.change(Due.LOADS, 0, 1, 1), -2000000);
        Due.is("one beyond", x.change(Due.LOADS, 0, 1, 1), -2000000);
        Due.is("far beyond", x.change(Due.LOADS, 0, 1, 16000), -2000000);
        Due.is("a whole beyond", x.change(Due.LOADS, 0, 3, 0), -2000000);
        Due.is("back from the end", x.change(Due.LOADS, 0, 0, 1), -1999999);
        Due.is("a part of it beyond", x.change(Due.LOADS, 0, 1, 16000), -2000000);
        Due.is("more by a number below 0", x.change(Due.LOADS, 0, 0, -1), -2000000);
    }

    @Says(promise = 0, value = "FAULTS: of a BOOK that is MISSING -100000 less its number")
    static void missingIsAheadOfTheLine() {
        for (int book = Due.SIGNS; book <= Due.TOLLS; book++) {
            FlightBooks x = Due.withBooks(1, 1);
            x.lose(book);
            Due.fault("a line that it might have", x, 0, x.read(book, 0), -100000 - book);
            Due.fault("a line below 0", x, 1, x.read(book, -1), -100000 - book);
            Due.fault("a line above 23", x, 2, x.read(book, 24), -100000 - book);
        }
    }

    @Says(promise = 0, value = "else of a line that it has not -200000 less its number.")
    static void aLineThatItHasNot() {
        for (int book = Due.SIGNS; book <= Due.TOLLS; book++) {
            FlightBooks x = Due.withBooks(24, 5);
            Due.is("its last line", x.read(book, 4), 0);
            Due.fault("one beyond", x, 0, x.read(book, 5), -200000 - book);
            Due.fault("the highest", x, 1, x.read(book, HIGHEST), -200000 - book);
            Due.fault("one below", x, 2, x.read(book, -1), -200000 - book);
            Due.fault("the lowest", x, 3, x.read(book, LOWEST), -200000 - book);
        }
    }

    @Says(promise = 0, value = "An act that is told to do several things does them in the order told; "
        + "the first FAULT ends it and is its answer; what was told ahead of that is done.")
    static void theFirstFaultEndsAnAct() {
        FlightBooks x = Due.withBooks(2, 2);
        x.write(Due.LEVELS, 0, 1);
        x.lose(Due.LOADS);
        x.lose(Due.TOLLS);
        Due.fault("LOADS ahead of TOLLS", x, 0, x.enter(5, 8), -100002);
        Due.book("behind LOADS nothing is done", x, Due.SIGNS, 0, 0);
        x.keep(Due.LOADS, 1);
        Due.fault("TOLLS behind LOADS and SIGNS", x, 1, x.enter(5, 8), -100004);
        Due.book("ahead of TOLLS it is done", x, Due.LOADS, 8);
        Due.book("ahead of TOLLS it is done", x, Due.SIGNS, 5, 0);
    }

    @Says(promise = 0, value = "REFUSED is -300000, where told so: ahead of all else, and nothing is done then.")
    static void refusedIsAheadOfAllElse() {
        FlightBooks x = new FlightBooks(1);
        Due.refused("keep, ahead of -2", x, x.keep(5, 25));
        Due.refused("write, ahead of MISSING", x, x.write(Due.LOADS, 0, 16001));
        Due.refused("change, ahead of MISSING", x, x.change(Due.SIGNS, 0, 4, 1));
        Due.refused("copy, ahead of MISSING", x, x.copy(Due.SIGNS, Due.SIGNS));
        Due.refused("sluice, ahead of MISSING", x, x.sluice(1, 1));
        Due.refused("open, ahead of MISSING", x, x.open(1));
        Due.refused("shut, ahead of MISSING", x, x.shut(1));
        Due.refused("enter, ahead of MISSING", x, x.enter(0, 0));
        Due.refused("pass, ahead of MISSING", x, x.pass(1));
        Due.refused("note, ahead of the CHART", x, x.note(5, 0, 0, 0));
        Due.is("nothing is kept", x.look(5), 0);
    }

    @Says(promise = 0, value = "The CHART is MISSING (at first), or has rows 0, 1, .. of as many columns each, of ints.")
    static void theChartIsMissingAtFirst() {
        FlightBooks x = Due.withBooks(1, 1);
        Due.is("chart", x.chart(0, 0), -100005);
        Due.is("columns", x.columns(0), -100005);
        Due.is("note", x.note(Due.SIGNS, 0, 0, 0), -100005);
    }

    @Says(promise = 0, value = "The CHART is MISSING (at first), or has rows 0, 1, .. of as many columns each, of ints.")
    static void aPlaceHoldsWhatAnyBookHolds() {
        FlightBooks x = Due.withBooks(1, 2);
        Due.load(x, 0, 2000000);
        Due.load(x, 1, -2000000);
        x.survey(1, 2);
        x.note(Due.LOADS, 0, 0, 0);
        x.note(Due.LOADS, 1, 0, 1);
        Due.is("the highest load", x.chart(0, 0), 2000000);
        Due.is("the lowest load", x.chart(0, 1), -2000000);
    }

    @Says(promise = 0, value = "Its FAULTS: -100005, if it is MISSING; else -200005, if it has no such row; "
        + "else -200006, if it has no such column.")
    static void faultsOfTheChartInTheirOrder() {
        FlightBooks x = new FlightBooks(1);
        Due.fault("MISSING ahead of row and column", x, 0, x.chart(3, 4), -100005);
        x.survey(3, 4);
        Due.fault("row ahead of column", x, 1, x.chart(3, 4), -200005);
        Due.fault("row below 0 ahead of column", x, 2, x.chart(-1, -1), -200005);
        Due.fault("column", x, 3, x.chart(2, 4), -200006);
        Due.fault("column below 0", x, 4, x.chart(0, -1), -200006);
        Due.is("none of them", x.chart(2, 3), 0);
    }
}
