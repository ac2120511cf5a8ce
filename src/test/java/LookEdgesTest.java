import java.io.IOException;

/** Promise 19: a test for each part of its sentence that names a boundary. */
public final class LookEdgesTest {
    private LookEdgesTest() {
    }

    public static void main(String[] args) throws IllegalAccessException, IOException {
        Sentences.run(LookEdgesTest.class);
    }

    /** One chamber with a barge in it, and its gate open. */
    private static FlightBooks bargeAtTheEnd(int load) {
        FlightBooks x = Due.withBooks(1, 1);
        x.write(Due.GATES, 0, 1);
        x.write(Due.SIGNS, 0, 1);
        Due.load(x, 0, load);
        return x;
    }

    @Says(promise = 19, value = "What 0: N,")
    static void p19LookAtN() {
        int[] chambers = {Integer.MIN_VALUE, 0, 1, 2, 23, 24, 25, Integer.MAX_VALUE};
        int[] want = {1, 1, 1, 2, 23, 24, 24, 24};
        for (int i = 0; i < chambers.length; i++) {
            Due.is("N of " + chambers[i], new FlightBooks(chambers[i]).look(0), want[i]);
        }
    }

    @Says(promise = 19, value = "1: barges that went OUT,")
    static void p19LookAtBargesOut() {
        FlightBooks x = bargeAtTheEnd(5);
        Due.is("none", x.look(1), 0);
        x.pass(0);
        Due.is("one", x.look(1), 1);
        x.pass(0);
        Due.is("there was none to go", x.look(1), 1);
        x.write(Due.SIGNS, 0, 1);
        x.write(Due.GATES, 0, 0);
        x.pass(0);
        Due.is("the gate was shut", x.look(1), 1);
        x.write(Due.GATES, 0, 1);
        x.pass(0);
        Due.is("two, one without a load", x.look(1), 2);
        x.write(Due.SIGNS, 0, 1);
        x.lose(Due.LOADS);
        x.pass(0);
        Due.is("LOADS were MISSING", x.look(1), 2);
    }

    @Says(promise = 19, value = "1: barges that went OUT,")
    static void p19LookAtBargesThatWentOnWithinTheFlight() {
        FlightBooks x = Due.withBooks(2, 2);
        x.write(Due.GATES, 0, 1);
        x.write(Due.SIGNS, 0, 1);
        x.write(Due.LOADS, 0, 5);
        Due.is("on to the last chamber", x.pass(0), 5);
        Due.is("none is OUT", x.look(1), 0);
        Due.is("no load is OUT", x.look(2), 0);
    }

    @Says(promise = 19, value = "2: their loads together, in eighths,")
    static void p19LookAtLoadsOut() {
        FlightBooks x = bargeAtTheEnd(7);
        Due.is("none", x.look(2), 0);
        x.pass(0);
        Due.is("eighths, not wholes", x.look(2), 7);
        x.write(Due.SIGNS, 0, 1);
        x.write(Due.LOADS, 0, -16000);
        x.pass(0);
        Due.is("together, below 0", x.look(2), -15993);
        x.write(Due.SIGNS, 0, 1);
        x.pass(0);
        Due.is("one without a load", x.look(2), -15993);
        x.lose(Due.LOADS);
        x.keep(Due.LOADS, 1);
        Due.is("a new BOOK changes nothing", x.look(2), -15993);
    }

    @Says(promise = 19, value = "2: their loads together, in eighths,")
    static void p19LookAtLoadsOutBeyondTheEndOfALine() {
        FlightBooks x = bargeAtTheEnd(2000000);
        x.pass(0);
        x.write(Due.SIGNS, 0, 1);
        Due.load(x, 0, 2000000);
        x.pass(0);
        Due.is("they are no line of LOADS", x.look(2), 4000000);
    }

    @Says(promise = 19, value = "3: calls that answered a FAULT,")
    static void p19LookAtCallsThatAnsweredAFault() {
        FlightBooks x = new FlightBooks(1);
        Due.is("none", x.look(3), 0);
        int[] answers = {
            x.lines(0), x.read(1, 0), x.write(2, 0, 1), x.change(3, 0, 0, 1), x.tally(4),
            x.copy(0, 1), x.sluice(0, 1), x.open(0), x.shut(0), x.enter(1, 1), x.pass(0),
            x.note(0, 0, 0, 0), x.chart(0, 0), x.columns(0)
        };
        for (int answer : answers) {
            Due.holds("a FAULT: " + answer, answer <= -100000 && answer >= -100005);
        }
        Due.is("each of them once", x.look(3), answers.length);
    }

    @Says(promise = 19, value = "3: calls that answered a FAULT,")
    static void p19LookAtCallsThatAnsweredAnotherWrong() {
        FlightBooks x = Due.withBooks(1, 1);
        x.write(Due.LEVELS, 0, 1);
        Due.is("keep", x.keep(0, 25), -2);
        Due.is("keep", x.keep(0, -1), -3);
        Due.is("survey", x.survey(25, 1), -2);
        Due.is("survey", x.survey(-1, 1), -3);
        Due.is("open", x.open(0), -2);
        Due.is("enter", x.enter(1, 9), -3);
        Due.is("pass", x.pass(0), -2);
        x.write(Due.GATES, 0, 1);
        Due.is("pass", x.pass(0), -3);
        Due.is("look", x.look(6), Due.REFUSED);
        Due.is("read", x.read(5, 0), Due.REFUSED);
        Due.is("none is a FAULT", x.look(3), 0);
        Due.is("none is the latest", x.look(4), 0);
    }

    @Says(promise = 19, value = "3: calls that answered a FAULT,")
    static void p19LookAtNumbersLikeFaults() {
        for (int load : new int[] {-100000, -100002, -100005, -200002, -200006, -300000}) {
            FlightBooks x = bargeAtTheEnd(load);
            x.survey(1, 1);
            x.note(Due.LOADS, 0, 0, 0);
            Due.likeAFault("read", x, x.read(Due.LOADS, 0), load);
            Due.likeAFault("change", x, x.change(Due.LOADS, 0, 0, 0), load);
            Due.likeAFault("tally", x, x.tally(Due.LOADS), load);
            Due.likeAFault("chart", x, x.chart(0, 0), load);
            Due.likeAFault("pass", x, x.pass(0), load);
            Due.likeAFault("look(2)", x, x.look(2), load);
        }
    }

    @Says(promise = 19, value = "4: the latest such answer (0 without),")
    static void p19LookAtTheLatestFault() {
        FlightBooks x = new FlightBooks(1);
        Due.is("without", x.look(4), 0);
        x.read(4, 0);
        Due.is("the first", x.look(4), -100004);
        x.keep(3, 1);
        x.read(3, 0);
        Due.is("it stays", x.look(4), -100004);
        x.read(3, 1);
        Due.is("the latest", x.look(4), -200003);
        x.read(5, 0);
        Due.is("REFUSED is none", x.look(4), -200003);
        Due.is("looking at it is none", x.look(3), 2);
        x.survey(1, 1);
        x.chart(0, 1);
        Due.is("of the CHART", x.look(4), -200006);
        x.read(4, 0);
        Due.is("the first again", x.look(4), -100004);
        Due.is("four", x.look(3), 4);
    }

    @Says(promise = 19, value = "5: BOOKS that are not MISSING.")
    static void p19LookAtBooks() {
        FlightBooks x = new FlightBooks(1);
        Due.is("none", x.look(5), 0);
        for (int book = Due.SIGNS; book <= Due.TOLLS; book++) {
            x.keep(book, 0);
            Due.is("without lines too", x.look(5), book + 1);
            x.keep(book, 24);
            Due.is("kept again", x.look(5), book + 1);
        }
        x.survey(1, 1);
        Due.is("the CHART is none", x.look(5), 5);
        for (int book = Due.SIGNS; book <= Due.TOLLS; book++) {
            x.lose(book);
            x.lose(book);
            Due.is("lost", x.look(5), 4 - book);
        }
    }

    @Says(promise = 19, value = "REFUSED: another what.")
    static void p19LookAtAnotherWhat() {
        FlightBooks x = Due.withBooks(1, 1);
        for (int what : new int[] {Integer.MIN_VALUE, -1, 6, 7, Integer.MAX_VALUE}) {
            Due.refused("look(" + what + ")", x, x.look(what));
        }
    }
}
