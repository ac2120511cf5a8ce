/** Promises 9 to 14: acts through several books, with a FAULT at each of their places. */
public final class ActsTest {
    private static final int[] NOT_OF_THREE = {Integer.MIN_VALUE, -1, 3, 24, Integer.MAX_VALUE};

    private ActsTest() {
    }

    public static void main(String[] args) {
        promise9Copy();
        promise9CopyBetweenKinds();
        promise9CopyFaults();
        promise10Sluice();
        promise10SluiceFaults();
        promise11Open();
        promise11OpenFaults();
        promise12Shut();
        promise13Enter();
        promise13EnterRefused();
        promise13EnterFaults();
        promise14PassOn();
        promise14PassOut();
        promise14PassIsKeptBack();
        promise14PassOnFaults();
        promise14PassOutFaults();
        promise14LoadsLikeFaults();
        noSuchChamber();
        Due.end();
    }

    // ---- copy

    private static void promise9Copy() {
        FlightBooks x = new FlightBooks(1);
        Due.fill(x, Due.SIGNS, 1, 2, 3);
        Due.fill(x, Due.LEVELS, 7, 7, 7, 7, 7);
        Due.is("9: copy", x.copy(Due.SIGNS, Due.LEVELS), 3);
        Due.book("9: to", x, Due.LEVELS, 1, 2, 3, 7, 7);
        Due.book("9: from", x, Due.SIGNS, 1, 2, 3);
        x.keep(Due.SIGNS, 24);
        x.keep(Due.LEVELS, 24);
        x.write(Due.SIGNS, 0, 8);
        x.write(Due.SIGNS, 23, 9);
        Due.is("9: 24 lines", x.copy(Due.SIGNS, Due.LEVELS), 24);
        Due.is("9: the first", x.read(Due.LEVELS, 0), 8);
        Due.is("9: the last", x.read(Due.LEVELS, 23), 9);
        x.keep(Due.SIGNS, 0);
        Due.is("9: no lines", x.copy(Due.SIGNS, Due.LEVELS), 0);
        Due.is("9: nothing is done", x.read(Due.LEVELS, 23), 9);
        x.lose(Due.LEVELS);
        Due.is("9: no lines to a MISSING book", x.copy(Due.SIGNS, Due.LEVELS), 0);
        Due.is("9: it stays MISSING", x.look(5), 1);
        Due.is("9: no FAULT", x.look(3), 0);
        for (int book = Due.SIGNS; book <= Due.TOLLS; book++) {
            Due.is("9: both are one", x.copy(book, book), Due.REFUSED);
        }
        Due.is("9: no FAULT of a MISSING one", x.look(3), 0);
    }

    private static void copied(int from, int v, int to, int want) {
        FlightBooks x = Due.withBooks(1, 2);
        x.write(from, 1, v);
        String what = "9: " + v + " from " + from + " to " + to;
        Due.is(what, x.copy(from, to), 2);
        Due.book(what, x, to, 0, want);
    }

    private static void promise9CopyBetweenKinds() {
        copied(Due.SIGNS, 65535, Due.LEVELS, -1);
        copied(Due.SIGNS, 65535, Due.LOADS, 16000);
        copied(Due.SIGNS, 16001, Due.LOADS, 16000);
        copied(Due.SIGNS, 15999, Due.LOADS, 15999);
        copied(Due.SIGNS, 3, Due.GATES, 1);
        copied(Due.SIGNS, 2, Due.GATES, 0);
        copied(Due.SIGNS, 128, Due.TOLLS, -128);
        copied(Due.LEVELS, -1, Due.SIGNS, 65535);
        copied(Due.LEVELS, -32768, Due.LOADS, -16000);
        copied(Due.LEVELS, -16001, Due.LOADS, -16000);
        copied(Due.LEVELS, -15999, Due.LOADS, -15999);
        copied(Due.LOADS, 9, Due.LEVELS, 9);
        copied(Due.LOADS, -9, Due.GATES, 1);
        copied(Due.LOADS, -16000, Due.SIGNS, 49536);
        copied(Due.LOADS, 255, Due.TOLLS, -1);
        copied(Due.GATES, 1, Due.LOADS, 1);
        copied(Due.TOLLS, -128, Due.SIGNS, 65408);
        FlightBooks x = Due.withBooks(1, 2);
        Due.load(x, 0, 2000000);
        Due.load(x, 1, -2000000);
        Due.is("9: high loads", x.copy(Due.LOADS, Due.LEVELS), 2);
        Due.book("9: high loads", x, Due.LEVELS, (short) 2000000, (short) -2000000);
    }

    private static void promise9CopyFaults() {
        for (int from = Due.SIGNS; from <= Due.TOLLS; from++) {
            int to = (from + 1) % 5;
            FlightBooks x = new FlightBooks(1);
            Due.fault("9: both MISSING", x, 0, x.copy(from, to), -100000 - from);
            x.keep(to, 2);
            Due.fault("9: from is MISSING", x, 1, x.copy(from, to), -100000 - from);
            x.lose(to);
            Due.fill(x, from, 1, 1, 1);
            Due.fault("9: to is MISSING", x, 2, x.copy(from, to), -100000 - to);
            x.keep(to, 0);
            Due.fault("9: to has no line", x, 3, x.copy(from, to), -200000 - to);
            x.keep(to, 2);
            Due.fault("9: to has too few lines", x, 4, x.copy(from, to), -200000 - to);
            Due.book("9: what was ahead is done", x, to, 1, 1);
            Due.book("9: from stays", x, from, 1, 1, 1);
        }
    }

    // ---- sluice

    private static void promise10Sluice() {
        FlightBooks x = new FlightBooks(3);
        Due.fill(x, Due.LEVELS, 100, 10, 1, 55);
        Due.is("10: the first chamber", x.sluice(0, 30), 70);
        Due.book("10: the first chamber", x, Due.LEVELS, 70, 40, 1, 55);
        Due.is("10: below 0", x.sluice(1, -5), 45);
        Due.book("10: below 0", x, Due.LEVELS, 70, 45, -4, 55);
        Due.is("10: the last chamber", x.sluice(2, 6), -10);
        Due.book("10: the last chamber", x, Due.LEVELS, 70, 45, -10, 55);
        Due.fill(x, Due.LEVELS, -32768, 32767, 0);
        Due.is("10: cut", x.sluice(0, 1), 32767);
        Due.book("10: cut", x, Due.LEVELS, 32767, -32768, 0);
        Due.is("10: as many lines as are enough", x.sluice(1, 0), -32768);
        Due.is("10: far", x.sluice(0, Integer.MIN_VALUE), 32767);
        Due.is("10: far", x.sluice(0, Integer.MAX_VALUE), -32768);
        Due.book("10: far", x, Due.LEVELS, -32768, 32767, 0);
        Due.is("10: no FAULT", x.look(3), 0);
    }

    private static void promise10SluiceFaults() {
        FlightBooks x = new FlightBooks(3);
        Due.fault("10: LEVELS are MISSING", x, 0, x.sluice(0, 5), -100001);
        x.keep(Due.LEVELS, 0);
        Due.fault("10: no line c", x, 1, x.sluice(0, 5), -200001);
        x.keep(Due.LEVELS, 1);
        Due.fault("10: no line c + 1", x, 2, x.sluice(0, 5), -200001);
        Due.book("10: what was ahead is done", x, Due.LEVELS, -5);
        Due.fault("10: no line c", x, 3, x.sluice(1, 5), -200001);
        Due.fault("10: no line c, last chamber", x, 4, x.sluice(2, 5), -200001);
        Due.book("10: nothing is done", x, Due.LEVELS, -5);
        x.keep(Due.LEVELS, 3);
        Due.is("10: the last chamber asks no line more", x.sluice(2, 5), -5);
    }

    // ---- open and shut

    private static void promise11Open() {
        FlightBooks x = new FlightBooks(3);
        Due.fill(x, Due.LEVELS, 4, 4, 0, 9);
        Due.fill(x, Due.GATES, 0, 0, 0, 0);
        Due.is("11: alike", x.open(0), 0);
        Due.is("11: unlike", x.open(1), -2);
        Due.is("11: the last chamber, alike to 0", x.open(2), 0);
        Due.book("11: gates", x, Due.GATES, 1, 0, 1, 0);
        Due.is("11: open already", x.open(0), 0);
        Due.book("11: gates", x, Due.GATES, 1, 0, 1, 0);
        Due.book("11: levels stay", x, Due.LEVELS, 4, 4, 0, 9);
        x.write(Due.LEVELS, 2, 9);
        x.write(Due.GATES, 2, 0);
        Due.is("11: the last chamber, unlike 0", x.open(2), -2);
        x.write(Due.LEVELS, 0, 5);
        Due.is("11: unlike, open already", x.open(0), -2);
        Due.book("11: nothing is done", x, Due.GATES, 1, 0, 0, 0);
        Due.is("11: no FAULT", x.look(3), 0);
    }

    private static void promise11OpenFaults() {
        FlightBooks x = new FlightBooks(2);
        Due.fault("11: LEVELS are MISSING", x, 0, x.open(0), -100001);
        x.keep(Due.LEVELS, 0);
        Due.fault("11: no line c", x, 1, x.open(0), -200001);
        x.keep(Due.LEVELS, 1);
        Due.fault("11: no line c + 1", x, 2, x.open(0), -200001);
        Due.fault("11: no line c, last chamber", x, 3, x.open(1), -200001);
        Due.fill(x, Due.LEVELS, 1, 2);
        Due.is("11: unlike, ahead of GATES", x.open(0), -2);
        Due.is("11: unlike, last chamber", x.open(1), -2);
        x.keep(Due.LEVELS, 2);
        Due.fault("11: GATES are MISSING", x, 4, x.open(0), -100003);
        Due.fault("11: GATES are MISSING, last chamber", x, 5, x.open(1), -100003);
        x.keep(Due.GATES, 1);
        Due.fault("11: GATES have no line c", x, 6, x.open(1), -200003);
        Due.book("11: nothing is done", x, Due.GATES, 0);
        Due.is("11: a line is enough", x.open(0), 0);
        Due.book("11: done", x, Due.GATES, 1);
        x.lose(Due.LEVELS);
        Due.fault("11: LEVELS ahead of GATES", x, 7, x.open(1), -100001);
    }

    private static void promise12Shut() {
        FlightBooks x = new FlightBooks(3);
        Due.fault("12: GATES are MISSING", x, 0, x.shut(0), -100003);
        Due.fill(x, Due.GATES, 1, 0);
        Due.fault("12: no line c", x, 1, x.shut(2), -200003);
        Due.book("12: nothing is done", x, Due.GATES, 1, 0);
        Due.is("12: it was open", x.shut(0), 1);
        Due.is("12: it is shut", x.shut(0), 0);
        Due.is("12: it was shut", x.shut(1), 0);
        Due.fill(x, Due.GATES, 1, 1, 1, 1);
        Due.is("12: the last chamber", x.shut(2), 1);
        Due.book("12: one gate alone", x, Due.GATES, 1, 1, 0, 1);
    }

    // ---- enter

    private static FlightBooks flight(int chambers, int level) {
        FlightBooks x = Due.withBooks(chambers, chambers);
        x.write(Due.LEVELS, 0, level);
        return x;
    }

    private static void promise13Enter() {
        FlightBooks x = flight(2, 2000);
        Due.is("13: the first", x.enter(65535, 16000), 1);
        Due.book("13: signs", x, Due.SIGNS, 65535, 0);
        Due.book("13: loads", x, Due.LOADS, 16000, 0);
        Due.book("13: tolls", x, Due.TOLLS, 1, 0);
        Due.book("13: levels stay", x, Due.LEVELS, 2000, 0);
        Due.is("13: there is one", x.enter(1, 1), -2);
        Due.is("13: there is one, load too high", x.enter(1, 16000), -2);
        x.write(Due.SIGNS, 0, 0);
        x.write(Due.LEVELS, 0, 1999);
        Due.is("13: load too high", x.enter(1, 15993), -3);
        Due.book("13: nothing is done", x, Due.LOADS, 16000, 0);
        Due.book("13: nothing is done", x, Due.TOLLS, 1, 0);
        Due.is("13: as high as may be", x.enter(0x7FFF0001, 15992), 2);
        Due.book("13: the lowest 16 bits", x, Due.SIGNS, 1, 0);
        x.write(Due.SIGNS, 0, 0);
        x.write(Due.LEVELS, 0, -1);
        Due.is("13: level below 0", x.enter(1, 0), -3);
        x.write(Due.LEVELS, 0, 0);
        Due.is("13: level 0, load 1", x.enter(1, 1), -3);
        x.write(Due.TOLLS, 0, 127);
        Due.is("13: level 0, load 0; toll is cut", x.enter(-1, 0), -128);
        Due.book("13: sign of -1", x, Due.SIGNS, 65535, 0);
        x.write(Due.SIGNS, 0, 0);
        x.write(Due.LEVELS, 0, 32767);
        Due.is("13: highest level", x.enter(32768, 16000), -127);
        Due.is("13: no FAULT", x.look(3), 0);
    }

    private static void promise13EnterRefused() {
        FlightBooks x = flight(1, 100);
        int[] noSign = {0, 65536, Integer.MIN_VALUE, -65536};
        for (int sign : noSign) {
            Due.is("13: no sign", x.enter(sign, 1), Due.REFUSED);
        }
        int[] noLoad = {-1, 16001, Integer.MIN_VALUE, Integer.MAX_VALUE};
        for (int load : noLoad) {
            Due.is("13: no load", x.enter(1, load), Due.REFUSED);
        }
        Due.book("13: nothing is done", x, Due.SIGNS, 0);
        x.write(Due.SIGNS, 0, 5);
        Due.is("13: ahead of -2", x.enter(0, 1), Due.REFUSED);
        x = new FlightBooks(1);
        Due.is("13: ahead of FAULTS", x.enter(0, 1), Due.REFUSED);
        Due.is("13: ahead of FAULTS", x.enter(1, -1), Due.REFUSED);
        Due.is("13: no FAULT", x.look(3), 0);
    }

    private static void promise13EnterFaults() {
        FlightBooks x = new FlightBooks(1);
        Due.fault("13: SIGNS are MISSING", x, 0, x.enter(9, 8), -100000);
        x.keep(Due.SIGNS, 0);
        Due.fault("13: SIGNS line 0", x, 1, x.enter(9, 8), -200000);
        Due.fill(x, Due.SIGNS, 3);
        Due.is("13: there is one, ahead of LEVELS", x.enter(9, 8), -2);
        x.keep(Due.SIGNS, 1);
        Due.fault("13: LEVELS are MISSING", x, 2, x.enter(9, 8), -100001);
        x.keep(Due.LEVELS, 0);
        Due.fault("13: LEVELS line 0", x, 3, x.enter(9, 8), -200001);
        x.keep(Due.LEVELS, 1);
        Due.is("13: too high, ahead of LOADS", x.enter(9, 8), -3);
        Due.fill(x, Due.LEVELS, 1);
        x.keep(Due.TOLLS, 1);
        Due.fault("13: LOADS are MISSING", x, 4, x.enter(9, 8), -100002);
        x.keep(Due.LOADS, 0);
        Due.fault("13: LOADS line 0", x, 5, x.enter(9, 8), -200002);
        Due.book("13: SIGNS behind LOADS", x, Due.SIGNS, 0);
        Due.book("13: TOLLS behind LOADS", x, Due.TOLLS, 0);
        x.keep(Due.LOADS, 1);
        x.lose(Due.TOLLS);
        Due.fault("13: TOLLS are MISSING", x, 6, x.enter(9, 8), -100004);
        Due.book("13: LOADS ahead of TOLLS", x, Due.LOADS, 8);
        Due.book("13: SIGNS ahead of TOLLS", x, Due.SIGNS, 9);
        x.keep(Due.SIGNS, 1);
        x.keep(Due.LOADS, 1);
        x.keep(Due.TOLLS, 0);
        Due.fault("13: TOLLS line 0", x, 7, x.enter(9, 7), -200004);
        Due.book("13: LOADS ahead of TOLLS", x, Due.LOADS, 7);
        Due.book("13: SIGNS ahead of TOLLS", x, Due.SIGNS, 9);
        x.keep(Due.SIGNS, 1);
        x.keep(Due.TOLLS, 1);
        Due.is("13: one line is enough", x.enter(9, 6), 1);
    }

    // ---- pass

    /** Three chambers; a barge with sign 77 and 40 eighths in chamber c, its gate open. */
    private static FlightBooks bargeIn(int c) {
        FlightBooks x = Due.withBooks(3, 3);
        x.write(Due.GATES, c, 1);
        x.write(Due.SIGNS, c, 77);
        x.write(Due.LOADS, c, 40);
        return x;
    }

    private static void promise14PassOn() {
        FlightBooks x = bargeIn(0);
        x.write(Due.LOADS, 1, 5);
        x.write(Due.TOLLS, 1, 127);
        Due.is("14: on", x.pass(0), 40);
        Due.book("14: signs", x, Due.SIGNS, 0, 77, 0);
        Due.book("14: loads", x, Due.LOADS, 0, 40, 0);
        Due.book("14: tolls", x, Due.TOLLS, 0, -128, 0);
        Due.book("14: gates stay", x, Due.GATES, 1, 0, 0);
        Due.is("14: not OUT", x.look(1), 0);
        x.write(Due.GATES, 1, 1);
        Due.is("14: to the last chamber", x.pass(1), 40);
        Due.book("14: signs", x, Due.SIGNS, 0, 0, 77);
        Due.book("14: loads", x, Due.LOADS, 0, 0, 40);
        Due.book("14: tolls", x, Due.TOLLS, 0, -128, 1);
        Due.is("14: not OUT", x.look(1), 0);
        Due.is("14: no FAULT", x.look(3), 0);
        x = bargeIn(0);
        Due.load(x, 0, 2000000);
        Due.is("14: the highest load", x.pass(0), 2000000);
        Due.is("14: is written so", x.read(Due.LOADS, 1), 2000000);
        x = bargeIn(0);
        Due.load(x, 0, -2000000);
        Due.is("14: the lowest load", x.pass(0), -2000000);
        Due.is("14: is written so", x.read(Due.LOADS, 1), -2000000);
    }

    private static void promise14PassOut() {
        FlightBooks x = bargeIn(2);
        x.lose(Due.TOLLS);
        Due.is("14: out", x.pass(2), 40);
        Due.book("14: signs", x, Due.SIGNS, 0, 0, 0);
        Due.book("14: loads", x, Due.LOADS, 0, 0, 0);
        Due.is("14: OUT", x.look(1), 1);
        Due.is("14: OUT", x.look(2), 40);
        Due.is("14: it is gone", x.pass(2), -3);
        Due.is("14: no FAULT", x.look(3), 0);
        x = Due.withBooks(2, 3);
        x.write(Due.GATES, 1, 1);
        x.write(Due.SIGNS, 1, 5);
        x.write(Due.SIGNS, 2, 6);
        Due.is("14: lines above the last chamber", x.pass(1), 0);
        Due.book("14: do not count", x, Due.SIGNS, 0, 0, 6);
        Due.is("14: OUT without a load", x.look(1), 1);
        x = Due.withBooks(1, 1);
        x.write(Due.GATES, 0, 1);
        x.write(Due.SIGNS, 0, 5);
        x.write(Due.LOADS, 0, -16000);
        Due.is("14: the one chamber is the last", x.pass(0), -16000);
        Due.is("14: OUT", x.look(2), -16000);
    }

    private static void promise14PassIsKeptBack() {
        for (int c = 0; c < 3; c++) {
            FlightBooks x = bargeIn(c);
            x.write(Due.GATES, c, 0);
            Due.is("14: shut", x.pass(c), -2);
            x.write(Due.SIGNS, c, 0);
            Due.is("14: shut, ahead of no barge", x.pass(c), -2);
            x.write(Due.GATES, c, 1);
            Due.is("14: no barge", x.pass(c), -3);
            Due.is("14: the load stays", x.read(Due.LOADS, c), 40);
            Due.is("14: not OUT", x.look(1), 0);
        }
        FlightBooks x = bargeIn(0);
        x.write(Due.SIGNS, 1, 8);
        Due.is("14: the next is full", x.pass(0), -4);
        Due.book("14: signs stay", x, Due.SIGNS, 77, 8, 0);
        Due.book("14: loads stay", x, Due.LOADS, 40, 0, 0);
        Due.book("14: tolls stay", x, Due.TOLLS, 0, 0, 0);
        Due.is("14: no FAULT", x.look(3), 0);
    }

    private static void promise14PassOnFaults() {
        FlightBooks x = new FlightBooks(3);
        Due.fault("14: GATES are MISSING", x, 0, x.pass(0), -100003);
        x.keep(Due.GATES, 0);
        Due.fault("14: GATES line c", x, 1, x.pass(0), -200003);
        x.keep(Due.GATES, 1);
        Due.is("14: shut, ahead of SIGNS", x.pass(0), -2);
        Due.fill(x, Due.GATES, 1);
        Due.fault("14: SIGNS are MISSING", x, 2, x.pass(0), -100000);
        x.keep(Due.SIGNS, 0);
        Due.fault("14: SIGNS line c", x, 3, x.pass(0), -200000);
        x.keep(Due.SIGNS, 1);
        Due.is("14: no barge, ahead of line c + 1", x.pass(0), -3);
        Due.fill(x, Due.SIGNS, 77);
        Due.fault("14: SIGNS line c + 1", x, 4, x.pass(0), -200000);
        Due.fill(x, Due.SIGNS, 77, 8);
        Due.is("14: full, ahead of LOADS", x.pass(0), -4);
        Due.fill(x, Due.SIGNS, 77, 0);
        x.keep(Due.TOLLS, 2);
        Due.fault("14: LOADS are MISSING", x, 5, x.pass(0), -100002);
        x.keep(Due.LOADS, 0);
        Due.fault("14: LOADS line c", x, 6, x.pass(0), -200002);
        Due.fill(x, Due.LOADS, 40);
        Due.fault("14: LOADS line c + 1", x, 7, x.pass(0), -200002);
        Due.book("14: the load stays", x, Due.LOADS, 40);
        Due.book("14: the signs stay", x, Due.SIGNS, 77, 0);
        Due.book("14: the tolls stay", x, Due.TOLLS, 0, 0);
        Due.fill(x, Due.LOADS, 40, 0);
        x.lose(Due.TOLLS);
        Due.fault("14: TOLLS are MISSING", x, 8, x.pass(0), -100004);
        Due.book("14: LOADS ahead of TOLLS", x, Due.LOADS, 40, 40);
        Due.book("14: SIGNS ahead of TOLLS", x, Due.SIGNS, 77, 77);
        Due.fill(x, Due.SIGNS, 78, 0);
        Due.fill(x, Due.LOADS, 41, 0);
        x.keep(Due.TOLLS, 1);
        Due.fault("14: TOLLS line c + 1", x, 9, x.pass(0), -200004);
        Due.book("14: LOADS ahead of TOLLS", x, Due.LOADS, 41, 41);
        Due.book("14: SIGNS ahead of TOLLS", x, Due.SIGNS, 78, 78);
        Due.book("14: TOLLS stay", x, Due.TOLLS, 0);
        Due.fill(x, Due.SIGNS, 78, 0);
        x.keep(Due.TOLLS, 2);
        Due.is("14: as many lines as are enough", x.pass(0), 41);
        Due.is("14: none is OUT", x.look(1), 0);
    }

    private static void promise14PassOutFaults() {
        FlightBooks x = new FlightBooks(2);
        Due.fault("14: GATES are MISSING", x, 0, x.pass(1), -100003);
        Due.fill(x, Due.GATES, 1);
        Due.fault("14: GATES line c", x, 1, x.pass(1), -200003);
        Due.fill(x, Due.GATES, 0, 1);
        Due.fault("14: SIGNS are MISSING", x, 2, x.pass(1), -100000);
        Due.fill(x, Due.SIGNS, 7);
        Due.fault("14: SIGNS line c", x, 3, x.pass(1), -200000);
        Due.fill(x, Due.SIGNS, 0, 7);
        Due.fault("14: LOADS are MISSING", x, 4, x.pass(1), -100002);
        x.keep(Due.LOADS, 1);
        Due.fault("14: LOADS line c", x, 5, x.pass(1), -200002);
        Due.book("14: the sign stays", x, Due.SIGNS, 0, 7);
        Due.is("14: not OUT", x.look(1), 0);
        Due.is("14: not OUT", x.look(2), 0);
        Due.fill(x, Due.LOADS, 0, 12);
        Due.is("14: out", x.pass(1), 12);
        Due.is("14: OUT", x.look(1), 1);
    }

    private static void promise14LoadsLikeFaults() {
        int[] loads = {-1, -2, -3, -4, -100000, -100002, -200002, -300000};
        for (int eighths : loads) {
            for (int c = 1; c <= 2; c++) {
                FlightBooks x = bargeIn(c);
                Due.load(x, c, eighths);
                Due.is("14: load " + eighths, x.pass(c), eighths);
                Due.book("14: it went", x, Due.SIGNS, 0, 0, c == 1 ? 77 : 0);
                Due.book("14: it went", x, Due.LOADS, 0, 0, c == 1 ? eighths : 0);
                Due.is("14: OUT", x.look(2), c == 2 ? eighths : 0);
                Due.is("14: no FAULT", x.look(3), 0);
                Due.is("14: no latest FAULT", x.look(4), 0);
            }
        }
    }

    private static void noSuchChamber() {
        for (int c : NOT_OF_THREE) {
            FlightBooks x = Due.withBooks(3, 24);
            for (int line = 0; line < 24; line++) {
                x.write(Due.GATES, line, 1);
                x.write(Due.SIGNS, line, 1);
            }
            Due.is("10: no such chamber", x.sluice(c, 1), Due.REFUSED);
            Due.is("11: no such chamber", x.open(c), Due.REFUSED);
            Due.is("12: no such chamber", x.shut(c), Due.REFUSED);
            Due.is("14: no such chamber", x.pass(c), Due.REFUSED);
            Due.is("10: nothing is done", x.tally(Due.LEVELS), 0);
            Due.is("12: nothing is done", x.tally(Due.GATES), 24);
            Due.is("14: nothing is done", x.tally(Due.SIGNS), 24);
            x = new FlightBooks(3);
            Due.is("10: ahead of FAULTS", x.sluice(c, 1), Due.REFUSED);
            Due.is("11: ahead of FAULTS", x.open(c), Due.REFUSED);
            Due.is("12: ahead of FAULTS", x.shut(c), Due.REFUSED);
            Due.is("14: ahead of FAULTS", x.pass(c), Due.REFUSED);
            Due.is("19: REFUSED is no FAULT", x.look(3), 0);
        }
        FlightBooks x = Due.withBooks(24, 24);
        Due.is("10: chamber 23 of 24", x.sluice(23, 1), -1);
        Due.is("11: chamber 22 of 24", x.open(22), -2);
        Due.is("12: chamber 23 of 24", x.shut(23), 0);
        Due.is("14: chamber 24 of 24", x.pass(24), Due.REFUSED);
    }
}
