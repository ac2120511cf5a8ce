/** Promise 19: what is counted, and what is not. */
public final class LookTest {
    private LookTest() {
    }

    public static void main(String[] args) {
        newObject();
        noSuchWhat();
        chambers();
        bargesOut();
        faults();
        numbersLikeFaults();
        booksKept();
        Due.end();
    }

    private static void newObject() {
        int[] want = {7, 0, 0, 0, 0, 0};
        FlightBooks x = new FlightBooks(7);
        for (int what = 0; what < want.length; what++) {
            Due.is("19: new, what " + what, x.look(what), want[what]);
        }
    }

    private static void noSuchWhat() {
        FlightBooks x = new FlightBooks(7);
        int[] none = {Integer.MIN_VALUE, -1, 6, Integer.MAX_VALUE};
        for (int what : none) {
            Due.is("19: no such what", x.look(what), Due.REFUSED);
        }
        Due.is("19: REFUSED is no FAULT", x.look(3), 0);
        Due.is("19: REFUSED is no FAULT", x.look(4), 0);
    }

    private static void chambers() {
        for (int n = 1; n <= 24; n++) {
            Due.is("19: N", new FlightBooks(n).look(0), n);
        }
    }

    private static void bargesOut() {
        FlightBooks x = Due.withBooks(1, 1);
        x.write(Due.GATES, 0, 1);
        int[] loads = {16000, -9, 0, 5};
        int sum = 0;
        for (int i = 0; i < loads.length; i++) {
            x.write(Due.SIGNS, 0, i + 1);
            x.write(Due.LOADS, 0, loads[i]);
            Due.is("19: out", x.pass(0), loads[i]);
            sum += loads[i];
            Due.is("19: barges OUT", x.look(1), i + 1);
            Due.is("19: their loads", x.look(2), sum);
        }
        x.lose(Due.LOADS);
        x.lose(Due.SIGNS);
        Due.is("19: OUT stays", x.look(1), loads.length);
        Due.is("19: their loads stay", x.look(2), sum);
    }

    private static void faults() {
        FlightBooks x = new FlightBooks(1);
        Due.fault("19: a BOOK's", x, 0, x.lines(4), -100004);
        Due.fault("19: the CHART's", x, 1, x.columns(0), -100005);
        Due.is("19: look(4) is no FAULT of its own", x.look(4), -100005);
        Due.is("19: look(4) is no FAULT of its own", x.look(3), 2);
        x.keep(4, 1);
        x.survey(1, 1);
        x.read(4, 0);
        x.write(9, 0, 0);
        x.keep(4, 25);
        x.lose(0);
        Due.is("19: other answers are none", x.look(3), 2);
        Due.is("19: the latest stays", x.look(4), -100005);
        Due.fault("19: a line's", x, 2, x.read(4, 1), -200004);
        Due.fault("19: the same again", x, 3, x.read(4, 1), -200004);
        Due.fault("19: a column's", x, 4, x.chart(0, 1), -200006);
    }

    private static void numbersLikeFaults() {
        FlightBooks x = new FlightBooks(1);
        x.keep(Due.LOADS, 1);
        for (int i = 0; i < 6; i++) {
            x.change(Due.LOADS, 0, 1, 16000);
        }
        Due.is("19: change", x.change(Due.LOADS, 0, 1, 4002), -100002);
        Due.is("19: read", x.read(Due.LOADS, 0), -100002);
        Due.is("19: tally", x.tally(Due.LOADS), -100002);
        Due.is("19: none is a FAULT", x.look(3), 0);
        Due.is("19: none is a FAULT", x.look(4), 0);
    }

    private static void booksKept() {
        FlightBooks x = new FlightBooks(1);
        for (int book = Due.SIGNS; book <= Due.TOLLS; book++) {
            x.keep(book, 0);
            Due.is("19: kept, be it without lines", x.look(5), book + 1);
            x.keep(book, 24);
            Due.is("19: kept again", x.look(5), book + 1);
        }
        for (int book = Due.SIGNS; book <= Due.TOLLS; book++) {
            x.lose(book);
            Due.is("19: lost", x.look(5), 4 - book);
        }
    }
}
