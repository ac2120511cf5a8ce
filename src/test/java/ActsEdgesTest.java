import java.io.IOException;

/** Promises 10 to 14: a test for each of their sentences that names a boundary. */
public final class ActsEdgesTest {
    private static final int LOWEST = Integer.MIN_VALUE;
    private static final int HIGHEST = Integer.MAX_VALUE;
    private static final int[] NO_CHAMBERS_OF_3 = {LOWEST, -1, 3, 4, 24, HIGHEST};

    private ActsEdgesTest() {
    }

    public static void main(String[] args) throws IllegalAccessException, IOException {
        Sentences.run(ActsEdgesTest.class);
    }

    // ---- 10: sluice

    private static FlightBooks levels(int chambers, int... levels) {
        FlightBooks x = new FlightBooks(chambers);
        Due.fill(x, Due.LEVELS, levels);
        return x;
    }

    @Says(promise = 10, value = "LEVELS line c is CHANGED: less by cm; line c + 1: more by cm (not of the last chamber).")
    static void p10SluiceFirstChamber() {
        FlightBooks x = levels(3, 100, 10, 1);
        Due.is("sluice", x.sluice(0, 30), 70);
        Due.book("levels", x, Due.LEVELS, 70, 40, 1);
    }

    @Says(promise = 10, value = "LEVELS line c is CHANGED: less by cm; line c + 1: more by cm (not of the last chamber).")
    static void p10SluiceLastChamberButOne() {
        FlightBooks x = levels(3, 100, 10, 1, 55);
        Due.is("sluice", x.sluice(1, 4), 6);
        Due.book("levels", x, Due.LEVELS, 100, 6, 5, 55);
    }

    @Says(promise = 10, value = "LEVELS line c is CHANGED: less by cm; line c + 1: more by cm (not of the last chamber).")
    static void p10SluiceLastChamber() {
        FlightBooks x = levels(3, 100, 10, 1, 55);
        Due.is("sluice", x.sluice(2, 4), -3);
        Due.book("the line beyond stays", x, Due.LEVELS, 100, 10, -3, 55);
        FlightBooks y = levels(3, 100, 10, 1);
        Due.is("no line beyond is asked", y.sluice(2, 4), -3);
        Due.is("no FAULT", y.look(3), 0);
        FlightBooks one = levels(1, 5, 6);
        Due.is("the one chamber", one.sluice(0, 5), 0);
        Due.book("the line beyond stays", one, Due.LEVELS, 0, 6);
    }

    @Says(promise = 0, value = "in SIGNS, LEVELS, TOLLS the lowest ones count (with the sign, where it has one)")
    static void p10SluiceBeyondTheEnds() {
        FlightBooks x = levels(2, -32768, 32767);
        Due.is("line c is one below its lowest", x.sluice(0, 1), 32767);
        Due.book("line c + 1 is one above its highest", x, Due.LEVELS, 32767, -32768);
        Due.is("and back", x.sluice(0, -1), -32768);
        Due.book("and back", x, Due.LEVELS, -32768, 32767);
        x = levels(2, 3, 4);
        Due.is("65536 cm", x.sluice(0, 65536), 3);
        Due.book("65536 cm", x, Due.LEVELS, 3, 4);
        Due.is("32768 cm", x.sluice(0, 32768), -32765);
        Due.book("32768 cm", x, Due.LEVELS, -32765, -32764);
        x = levels(2, 3, 4);
        Due.is("the lowest cm", x.sluice(0, LOWEST), 3);
        Due.book("the lowest cm", x, Due.LEVELS, 3, 4);
        Due.is("the highest cm", x.sluice(0, HIGHEST), 4);
        Due.book("the highest cm", x, Due.LEVELS, 4, 3);
        Due.is("0 cm", x.sluice(0, 0), 4);
        Due.book("0 cm", x, Due.LEVELS, 4, 3);
        FlightBooks last = levels(1, -32768);
        Due.is("of the last chamber", last.sluice(0, 1), 32767);
    }

    @Says(promise = 10, value = "What line c was behind the first of these.")
    static void p10SluiceAnswersLineC() {
        FlightBooks x = levels(2, 7, 1000);
        Due.is("line c, not line c + 1, nor cm", x.sluice(0, 2), 5);
        Due.is("as it is then", x.read(Due.LEVELS, 0), 5);
    }

    @Says(promise = 0, value = "FAULTS: of a BOOK that is MISSING -100000 less its number")
    static void p10SluiceLevelsAreMissing() {
        FlightBooks x = Due.withBooks(2, 2);
        x.lose(Due.LEVELS);
        Due.fault("a chamber", x, 0, x.sluice(0, 5), -100001);
        Due.fault("the last chamber", x, 1, x.sluice(1, 5), -100001);
    }

    @Says(promise = 0, value = "else of a line that it has not -200000 less its number.")
    static void p10SluiceNoLineC() {
        FlightBooks x = levels(3);
        Due.fault("no lines", x, 0, x.sluice(0, 5), -200001);
        Due.fill(x, Due.LEVELS, 9);
        Due.fault("one beyond", x, 1, x.sluice(1, 5), -200001);
        Due.fault("the last chamber", x, 2, x.sluice(2, 5), -200001);
        Due.book("nothing is done", x, Due.LEVELS, 9);
    }

    @Says(promise = 0, value = "the first FAULT ends it and is its answer; what was told ahead of that is done.")
    static void p10SluiceNoNextLine() {
        FlightBooks x = levels(3, 9, 8);
        Due.fault("no line c + 1", x, 0, x.sluice(1, 5), -200001);
        Due.book("line c was ahead of it", x, Due.LEVELS, 9, 3);
    }

    @Says(promise = 10, value = "REFUSED: there is no such chamber (here and below).")
    static void p10SluiceNoSuchChamber() {
        for (int c : NO_CHAMBERS_OF_3) {
            FlightBooks x = new FlightBooks(3);
            Due.refused("ahead of MISSING", x, x.sluice(c, 5));
            x.keep(Due.LEVELS, 24);
            Due.refused("sluice(" + c + ", 5)", x, x.sluice(c, 5));
            Due.book("nothing is done", x, Due.LEVELS, new int[24]);
        }
    }

    // ---- 11: open

    private static FlightBooks gates(int chambers, int... levels) {
        FlightBooks x = levels(chambers, levels);
        x.keep(Due.GATES, levels.length);
        return x;
    }

    @Says(promise = 11, value = "if they are unlike: -2; else GATES line c is WRITTEN: 1. 0.")
    static void p11OpenAlikeLevels() {
        for (int level : new int[] {-32768, -1, 0, 1, 32767}) {
            FlightBooks x = gates(3, level, level, 5);
            Due.is("open at " + level, x.open(0), 0);
            Due.book("gates", x, Due.GATES, 1, 0, 0);
            Due.is("open already", x.open(0), 0);
            Due.book("gates", x, Due.GATES, 1, 0, 0);
        }
    }

    @Says(promise = 11, value = "if they are unlike: -2; else GATES line c is WRITTEN: 1. 0.")
    static void p11OpenUnlikeLevels() {
        int[][] unlike = {{4, 5}, {5, 4}, {-1, 1}, {1, 0}, {0, 1}, {-32768, 32767}};
        for (int[] levels : unlike) {
            FlightBooks x = gates(3, levels[0], levels[1], levels[1]);
            Due.is("open at " + levels[0] + " and " + levels[1], x.open(0), -2);
            Due.book("it stays shut", x, Due.GATES, 0, 0, 0);
            x.write(Due.GATES, 0, 1);
            Due.is("if it is open", x.open(0), -2);
            Due.book("it stays open", x, Due.GATES, 1, 0, 0);
            Due.is("no FAULT", x.look(3), 0);
        }
    }

    @Says(promise = 11, value = "LEVELS line c is READ, then line c + 1 (of the last chamber it is 0, and nothing is read)")
    static void p11OpenLastChamber() {
        FlightBooks x = gates(2, 7, 0, 7);
        Due.is("at 0, the line beyond is unlike", x.open(1), 0);
        Due.book("gates", x, Due.GATES, 0, 1, 0);
        FlightBooks y = gates(2, 7, 7, 7);
        Due.is("at 7, the line beyond is alike", y.open(1), -2);
        Due.book("gates", y, Due.GATES, 0, 0, 0);
        FlightBooks none = gates(2, 7, 0);
        Due.is("at 0, no line beyond", none.open(1), 0);
        FlightBooks below = gates(2, 7, -1);
        Due.is("at -1", below.open(1), -2);
        FlightBooks one = gates(1, 0);
        Due.is("the one chamber", one.open(0), 0);
        Due.is("no FAULT", none.look(3), 0);
    }

    @Says(promise = 11, value = "LEVELS line c is READ, then line c + 1 (of the last chamber it is 0, and nothing is read)")
    static void p11OpenLastChamberButOne() {
        FlightBooks x = gates(2, 7, 7);
        Due.is("alike to the last one", x.open(0), 0);
        FlightBooks y = gates(2, 0, 7);
        Due.is("at 0, unlike the last one", y.open(0), -2);
    }

    @Says(promise = 0, value = "FAULTS: of a BOOK that is MISSING -100000 less its number")
    static void p11OpenABookIsMissing() {
        FlightBooks x = new FlightBooks(2);
        Due.fault("both", x, 0, x.open(0), -100001);
        x.keep(Due.GATES, 2);
        Due.fault("LEVELS", x, 1, x.open(0), -100001);
        Due.fault("LEVELS, last chamber", x, 2, x.open(1), -100001);
        Due.book("nothing is done", x, Due.GATES, 0, 0);
        x.lose(Due.GATES);
        Due.fill(x, Due.LEVELS, 0, 0);
        Due.fault("GATES", x, 3, x.open(0), -100003);
        Due.fault("GATES, last chamber", x, 4, x.open(1), -100003);
    }

    @Says(promise = 0, value = "else of a line that it has not -200000 less its number.")
    static void p11OpenNoSuchLine() {
        FlightBooks x = Due.withBooks(2, 2);
        x.keep(Due.LEVELS, 0);
        Due.fault("LEVELS line c", x, 0, x.open(0), -200001);
        x.keep(Due.LEVELS, 1);
        Due.fault("LEVELS line c + 1", x, 1, x.open(0), -200001);
        Due.fault("LEVELS line c, last chamber", x, 2, x.open(1), -200001);
        Due.book("nothing is done", x, Due.GATES, 0, 0);
        x.keep(Due.LEVELS, 2);
        x.keep(Due.GATES, 1);
        Due.fault("GATES line c", x, 3, x.open(1), -200003);
        Due.is("GATES line c alone is asked", x.open(0), 0);
    }

    @Says(promise = 0, value = "An act that is told to do several things does them in the order told;")
    static void p11OpenUnlikeIsAheadOfGates() {
        FlightBooks x = levels(2, 1, 2);
        Due.is("GATES are MISSING", x.open(0), -2);
        Due.is("GATES are MISSING, last chamber", x.open(1), -2);
        x.keep(Due.GATES, 0);
        Due.is("GATES have no such line", x.open(0), -2);
        Due.is("no FAULT", x.look(3), 0);
    }

    @Says(promise = 10, value = "REFUSED: there is no such chamber (here and below).")
    static void p11OpenNoSuchChamber() {
        for (int c : NO_CHAMBERS_OF_3) {
            FlightBooks x = new FlightBooks(3);
            Due.refused("ahead of MISSING", x, x.open(c));
            x.keep(Due.LEVELS, 24);
            x.keep(Due.GATES, 24);
            Due.refused("open(" + c + ")", x, x.open(c));
            Due.is("nothing is done", x.tally(Due.GATES), 0);
        }
    }

    // ---- 12: shut

    @Says(promise = 12, value = "GATES line c is READ, then WRITTEN: 0. What it was.")
    static void p12ShutAnOpenGate() {
        for (int c = 0; c < 3; c++) {
            FlightBooks x = new FlightBooks(3);
            Due.fill(x, Due.GATES, 1, 1, 1, 1);
            Due.is("it was open", x.shut(c), 1);
            Due.is("it is shut", x.read(Due.GATES, c), 0);
            Due.is("it alone", x.tally(Due.GATES), 3);
        }
    }

    @Says(promise = 12, value = "GATES line c is READ, then WRITTEN: 0. What it was.")
    static void p12ShutAShutGate() {
        FlightBooks x = new FlightBooks(3);
        Due.fill(x, Due.GATES, 1, 0, 1);
        Due.is("it was shut", x.shut(1), 0);
        Due.book("gates", x, Due.GATES, 1, 0, 1);
        Due.is("no FAULT", x.look(3), 0);
    }

    @Says(promise = 0, value = "FAULTS: of a BOOK that is MISSING -100000 less its number")
    static void p12ShutGatesAreMissing() {
        FlightBooks x = Due.withBooks(2, 2);
        x.lose(Due.GATES);
        Due.fault("a chamber", x, 0, x.shut(0), -100003);
        Due.fault("the last chamber", x, 1, x.shut(1), -100003);
    }

    @Says(promise = 0, value = "else of a line that it has not -200000 less its number.")
    static void p12ShutNoSuchLine() {
        FlightBooks x = new FlightBooks(2);
        Due.fill(x, Due.GATES, 1);
        Due.fault("one beyond", x, 0, x.shut(1), -200003);
        Due.book("nothing is done", x, Due.GATES, 1);
        x.keep(Due.GATES, 0);
        Due.fault("no lines", x, 1, x.shut(0), -200003);
    }

    @Says(promise = 10, value = "REFUSED: there is no such chamber (here and below).")
    static void p12ShutNoSuchChamber() {
        for (int c : NO_CHAMBERS_OF_3) {
            FlightBooks x = new FlightBooks(3);
            Due.refused("ahead of MISSING", x, x.shut(c));
            x.keep(Due.GATES, 24);
            for (int line = 0; line < 24; line++) {
                x.write(Due.GATES, line, 1);
            }
            Due.refused("shut(" + c + ")", x, x.shut(c));
            Due.is("nothing is done", x.tally(Due.GATES), 24);
        }
    }

    // ---- 13: enter

    private static FlightBooks atLevel(int level) {
        FlightBooks x = Due.withBooks(2, 2);
        x.write(Due.LEVELS, 0, level);
        return x;
    }

    private static void nothingEntered(FlightBooks x) {
        Due.book("no sign", x, Due.SIGNS, 0, 0);
        Due.book("no load", x, Due.LOADS, 0, 0);
        Due.book("no toll", x, Due.TOLLS, 0, 0);
    }

    @Says(promise = 13, value = "A barge comes into chamber 0, with a sign (its lowest 16 bits) and a load in eighths")
    static void p13EnterSignsLowest16Bits() {
        int[] signs = {1, 32768, 65535, 65537, -1, -65535, LOWEST + 1, HIGHEST, 0x12340001};
        int[] written = {1, 32768, 65535, 1, 65535, 1, 1, 65535, 1};
        for (int i = 0; i < signs.length; i++) {
            FlightBooks x = atLevel(10);
            Due.is("enter(" + signs[i] + ", 9)", x.enter(signs[i], 9), 1);
            Due.book("sign", x, Due.SIGNS, written[i], 0);
            Due.book("load", x, Due.LOADS, 9, 0);
            Due.book("toll", x, Due.TOLLS, 1, 0);
        }
    }

    @Says(promise = 13, value = "REFUSED: these bits are all 0, or load is not 0 .. 16000.")
    static void p13EnterSignWithoutBits() {
        for (int sign : new int[] {0, 65536, -65536, 131072, LOWEST, 0x7FFF0000}) {
            FlightBooks x = new FlightBooks(2);
            Due.refused("ahead of MISSING", x, x.enter(sign, 9));
            x = atLevel(10);
            Due.refused("enter(" + sign + ", 9)", x, x.enter(sign, 9));
            nothingEntered(x);
            x.write(Due.SIGNS, 0, 5);
            Due.refused("ahead of -2", x, x.enter(sign, 9));
            x.write(Due.SIGNS, 0, 0);
            Due.refused("ahead of -3", x, x.enter(sign, 16000));
        }
    }

    @Says(promise = 13, value = "REFUSED: these bits are all 0, or load is not 0 .. 16000.")
    static void p13EnterLoadBeyondItsEnds() {
        for (int load : new int[] {-1, 16001, -16000, LOWEST, HIGHEST}) {
            FlightBooks x = new FlightBooks(2);
            Due.refused("ahead of MISSING", x, x.enter(1, load));
            x = atLevel(32767);
            Due.refused("enter(1, " + load + ")", x, x.enter(1, load));
            nothingEntered(x);
            x.write(Due.SIGNS, 0, 5);
            Due.refused("ahead of -2", x, x.enter(1, load));
            x.write(Due.SIGNS, 0, 0);
            x.write(Due.LEVELS, 0, -32768);
            Due.refused("ahead of -3", x, x.enter(1, load));
        }
    }

    @Says(promise = 13, value = "REFUSED: these bits are all 0, or load is not 0 .. 16000.")
    static void p13EnterLoadAtItsEnds() {
        for (int load : new int[] {0, 1, 15999, 16000}) {
            FlightBooks x = atLevel(32767);
            Due.is("enter(1, " + load + ")", x.enter(1, load), 1);
            Due.book("load", x, Due.LOADS, load, 0);
        }
    }

    @Says(promise = 13, value = "SIGNS line 0 is READ: if it is not 0: -2.")
    static void p13EnterChamber0IsTaken() {
        for (int sign : new int[] {1, 32768, 65535}) {
            FlightBooks x = atLevel(10);
            Due.fill(x, Due.SIGNS, sign, 0);
            Due.is("sign " + sign, x.enter(1, 9), -2);
            Due.is("ahead of -3", x.enter(1, 81), -2);
            Due.book("the sign stays", x, Due.SIGNS, sign, 0);
            Due.book("no load", x, Due.LOADS, 0, 0);
            Due.book("no toll", x, Due.TOLLS, 0, 0);
            x.lose(Due.LEVELS);
            Due.is("ahead of LEVELS", x.enter(1, 9), -2);
            Due.is("no FAULT", x.look(3), 0);
        }
        FlightBooks next = atLevel(10);
        next.write(Due.SIGNS, 1, 5);
        Due.is("chamber 1 does not count", next.enter(1, 9), 1);
    }

    @Says(promise = 13, value = "LEVELS line 0 is READ: if load is above 8 times that: -3.")
    static void p13EnterLoadAt8TimesTheLevel() {
        int[] levels = {0, 1, 5, 1999, 2000};
        for (int level : levels) {
            FlightBooks x = atLevel(level);
            Due.is("at level " + level, x.enter(1, 8 * level), 1);
            Due.book("load", x, Due.LOADS, 8 * level, 0);
        }
        FlightBooks high = atLevel(32767);
        Due.is("at the highest level", high.enter(1, 16000), 1);
    }

    @Says(promise = 13, value = "LEVELS line 0 is READ: if load is above 8 times that: -3.")
    static void p13EnterLoadAbove8TimesTheLevel() {
        for (int level : new int[] {0, 1, 5, 1999}) {
            FlightBooks x = atLevel(level);
            Due.is("at level " + level, x.enter(1, 8 * level + 1), -3);
            nothingEntered(x);
            Due.is("no FAULT", x.look(3), 0);
        }
    }

    @Says(promise = 13, value = "LEVELS line 0 is READ: if load is above 8 times that: -3.")
    static void p13EnterLevelBelow0() {
        for (int level : new int[] {-1, -4096, -8192, -32768}) {
            FlightBooks x = atLevel(level);
            Due.is("load 0 at level " + level, x.enter(1, 0), -3);
            Due.is("load 16000 at level " + level, x.enter(1, 16000), -3);
            nothingEntered(x);
        }
    }

    @Says(promise = 13, value = "Then LOADS line 0 is WRITTEN, SIGNS line 0 is WRITTEN, "
        + "TOLLS line 0 is CHANGED: more by 1: what that is then.")
    static void p13EnterOverAnEarlierLoadAndToll() {
        FlightBooks x = atLevel(10);
        Due.fill(x, Due.LOADS, -16000, 6);
        Due.fill(x, Due.TOLLS, -1, 6);
        Due.is("the toll is 0 then", x.enter(5, 0), 0);
        Due.book("the load is another, 0 too", x, Due.LOADS, 0, 6);
        Due.book("the sign", x, Due.SIGNS, 5, 0);
        Due.book("the toll", x, Due.TOLLS, 0, 6);
        Due.book("the level stays", x, Due.LEVELS, 10, 0);
    }

    @Says(promise = 13, value = "TOLLS line 0 is CHANGED: more by 1: what that is then.")
    static void p13EnterTollBeyondItsEnd() {
        FlightBooks x = atLevel(10);
        x.write(Due.TOLLS, 0, 126);
        Due.is("the highest", x.enter(1, 9), 127);
        x.write(Due.SIGNS, 0, 0);
        Due.is("one beyond", x.enter(1, 9), -128);
        Due.book("tolls", x, Due.TOLLS, -128, 0);
        x.write(Due.SIGNS, 0, 0);
        x.write(Due.TOLLS, 0, -3);
        Due.is("as -2", x.enter(1, 9), -2);
        Due.book("it came in", x, Due.SIGNS, 1, 0);
    }

    @Says(promise = 0, value = "FAULTS: of a BOOK that is MISSING -100000 less its number")
    static void p13EnterEachBookIsMissing() {
        int[] books = {Due.SIGNS, Due.LEVELS, Due.LOADS, Due.TOLLS};
        for (int book : books) {
            FlightBooks x = atLevel(10);
            x.lose(book);
            Due.fault("book " + book, x, 0, x.enter(5, 9), -100000 - book);
            enteredAheadOf(x, book);
        }
        FlightBooks x = atLevel(10);
        x.lose(Due.GATES);
        Due.is("GATES are not asked", x.enter(5, 9), 1);
    }

    @Says(promise = 0, value = "else of a line that it has not -200000 less its number.")
    static void p13EnterEachBookHasNoLine() {
        int[] books = {Due.SIGNS, Due.LEVELS, Due.LOADS, Due.TOLLS};
        for (int book : books) {
            FlightBooks x = atLevel(10);
            x.keep(book, 0);
            Due.fault("book " + book, x, 0, x.enter(5, 9), -200000 - book);
            enteredAheadOf(x, book);
            x = Due.withBooks(2, 1);
            x.write(Due.LEVELS, 0, 10);
            Due.is("line 0 alone is asked", x.enter(5, 9), 1);
        }
    }

    /** The load is written ahead of the sign, both ahead of the toll. */
    private static void enteredAheadOf(FlightBooks x, int book) {
        boolean written = book == Due.TOLLS;
        if (book != Due.SIGNS) {
            Due.book("SIGNS", x, Due.SIGNS, written ? 5 : 0, 0);
        }
        if (book != Due.LOADS) {
            Due.book("LOADS", x, Due.LOADS, written ? 9 : 0, 0);
        }
        if (book != Due.TOLLS) {
            Due.book("TOLLS", x, Due.TOLLS, 0, 0);
        }
    }

    @Says(promise = 0, value = "An act that is told to do several things does them in the order told;")
    static void p13EnterInTheOrderTold() {
        FlightBooks x = new FlightBooks(1);
        Due.fault("SIGNS", x, 0, x.enter(5, 9), -100000);
        x.keep(Due.SIGNS, 1);
        Due.fault("LEVELS", x, 1, x.enter(5, 9), -100001);
        x.keep(Due.LEVELS, 1);
        Due.is("-3, ahead of LOADS", x.enter(5, 9), -3);
        x.write(Due.LEVELS, 0, 10);
        Due.fault("LOADS", x, 2, x.enter(5, 9), -100002);
        x.keep(Due.LOADS, 1);
        Due.fault("TOLLS", x, 3, x.enter(5, 9), -100004);
        x.keep(Due.TOLLS, 1);
        Due.is("the sign was written", x.enter(5, 9), -2);
    }

    // ---- 14: pass

    /** Three chambers; a barge with sign 77 and 40 eighths in chamber c, its gate open. */
    private static FlightBooks bargeIn(int c) {
        FlightBooks x = Due.withBooks(3, 3);
        x.write(Due.GATES, c, 1);
        x.write(Due.SIGNS, c, 77);
        x.write(Due.LOADS, c, 40);
        return x;
    }

    private static int[] at(int c, int v) {
        int[] lines = new int[3];
        if (c < 3) {
            lines[c] = v;
        }
        return lines;
    }

    private static void bargeStays(FlightBooks x, int c) {
        Due.book("the sign stays", x, Due.SIGNS, at(c, 77));
        Due.book("the load stays", x, Due.LOADS, at(c, 40));
        Due.book("no toll", x, Due.TOLLS, 0, 0, 0);
        Due.is("it is not OUT", x.look(1), 0);
        Due.is("no FAULT", x.look(3), 0);
    }

    @Says(promise = 14, value = "GATES line c is READ: if it is 0: -2.")
    static void p14PassGateIsShut() {
        for (int c = 0; c < 3; c++) {
            FlightBooks x = bargeIn(c);
            x.write(Due.GATES, c, 0);
            Due.is("pass(" + c + ")", x.pass(c), -2);
            bargeStays(x, c);
            x.write(Due.SIGNS, c, 0);
            Due.is("ahead of -3", x.pass(c), -2);
            x.lose(Due.SIGNS);
            Due.is("ahead of SIGNS", x.pass(c), -2);
            Due.is("no FAULT", x.look(3), 0);
        }
    }

    @Says(promise = 14, value = "SIGNS line c is READ: if it is 0: -3.")
    static void p14PassNoBarge() {
        for (int c = 0; c < 3; c++) {
            FlightBooks x = bargeIn(c);
            x.write(Due.SIGNS, c, 0);
            Due.is("pass(" + c + ")", x.pass(c), -3);
            Due.book("the load stays", x, Due.LOADS, at(c, 40));
            Due.is("none is OUT", x.look(1), 0);
            x.write(Due.SIGNS, 1, c == 0 ? 5 : 0);
            Due.is("ahead of -4", x.pass(c), -3);
            x.lose(Due.LOADS);
            Due.is("ahead of LOADS", x.pass(c), -3);
            x.keep(Due.SIGNS, c + 1);
            Due.is("ahead of SIGNS line c + 1", x.pass(c), -3);
            Due.is("no FAULT", x.look(3), 0);
        }
    }

    @Says(promise = 14, value = "Of others: SIGNS line c + 1 is READ: if it is not 0: -4;")
    static void p14PassNextIsTaken() {
        for (int c = 0; c < 2; c++) {
            for (int sign : new int[] {1, 32768, 65535}) {
                FlightBooks x = bargeIn(c);
                x.write(Due.SIGNS, c + 1, sign);
                Due.is("pass(" + c + ")", x.pass(c), -4);
                Due.is("the sign stays", x.read(Due.SIGNS, c), 77);
                Due.is("the next sign stays", x.read(Due.SIGNS, c + 1), sign);
                Due.book("the load stays", x, Due.LOADS, at(c, 40));
                Due.book("no toll", x, Due.TOLLS, 0, 0, 0);
                x.lose(Due.LOADS);
                Due.is("ahead of LOADS", x.pass(c), -4);
                Due.is("no FAULT", x.look(3), 0);
            }
        }
    }

    @Says(promise = 14, value = "LOADS line c is READ, line c + 1 is WRITTEN so; "
        + "SIGNS line c + 1 is WRITTEN as line c was; TOLLS line c + 1 is CHANGED: more by 1.")
    static void p14PassFromOthers() {
        for (int c = 0; c < 2; c++) {
            FlightBooks x = bargeIn(c);
            x.write(Due.LOADS, c + 1, 5);
            Due.is("pass(" + c + ")", x.pass(c), 40);
            Due.book("signs", x, Due.SIGNS, at(c + 1, 77));
            Due.book("loads", x, Due.LOADS, at(c + 1, 40));
            Due.book("tolls", x, Due.TOLLS, at(c + 1, 1));
            Due.book("the gate stays", x, Due.GATES, at(c, 1));
            Due.is("it is not OUT", x.look(1), 0);
            Due.is("it is not OUT", x.look(2), 0);
        }
    }

    @Says(promise = 14, value = "TOLLS line c + 1 is CHANGED: more by 1.")
    static void p14PassTollBeyondItsEnd() {
        FlightBooks x = bargeIn(0);
        x.write(Due.TOLLS, 1, 126);
        Due.is("the highest", x.pass(0), 40);
        Due.book("tolls", x, Due.TOLLS, 0, 127, 0);
        x = bargeIn(0);
        x.write(Due.TOLLS, 1, 127);
        Due.is("one beyond", x.pass(0), 40);
        Due.book("tolls", x, Due.TOLLS, 0, -128, 0);
    }

    @Says(promise = 14, value = "SIGNS line c + 1 is WRITTEN as line c was;")
    static void p14PassSignAtItsEnds() {
        for (int sign : new int[] {1, 32768, 65535}) {
            FlightBooks x = bargeIn(0);
            x.write(Due.SIGNS, 0, sign);
            Due.is("pass", x.pass(0), 40);
            Due.book("signs", x, Due.SIGNS, 0, sign, 0);
        }
    }

    @Says(promise = 14, value = "Of the last chamber: LOADS line c is READ; the barge is OUT.")
    static void p14PassFromTheLastChamber() {
        FlightBooks x = bargeIn(2);
        Due.is("pass", x.pass(2), 40);
        Due.book("signs", x, Due.SIGNS, 0, 0, 0);
        Due.book("loads", x, Due.LOADS, 0, 0, 0);
        Due.book("no toll", x, Due.TOLLS, 0, 0, 0);
        Due.is("OUT", x.look(1), 1);
        Due.is("OUT", x.look(2), 40);
        Due.is("it is gone", x.pass(2), -3);
        Due.is("OUT once", x.look(1), 1);
    }

    @Says(promise = 14, value = "Of the last chamber: LOADS line c is READ; the barge is OUT.")
    static void p14PassFromTheLastChamberAsksNoLineBeyond() {
        FlightBooks x = Due.withBooks(1, 1);
        x.lose(Due.TOLLS);
        x.write(Due.GATES, 0, 1);
        x.write(Due.SIGNS, 0, 77);
        Due.is("no line beyond, no TOLLS", x.pass(0), 0);
        Due.is("OUT", x.look(1), 1);
        FlightBooks y = Due.withBooks(2, 3);
        y.write(Due.GATES, 1, 1);
        Due.fill(y, Due.SIGNS, 0, 77, 5);
        Due.fill(y, Due.LOADS, 0, 40, 6);
        Due.is("the lines beyond are taken", y.pass(1), 40);
        Due.book("they stay", y, Due.SIGNS, 0, 0, 5);
        Due.book("they stay", y, Due.LOADS, 0, 0, 6);
        Due.is("no FAULT", y.look(3), 0);
    }

    @Says(promise = 14, value = "The load, in eighths (it may be below 0, or as a FAULT, as it was written).")
    static void p14PassLoadsBelow0AndLikeOtherAnswers() {
        for (int load : new int[] {0, -1, -2, -3, -4, -16000, 16000}) {
            for (int c = 1; c <= 2; c++) {
                FlightBooks x = bargeIn(c);
                x.write(Due.LOADS, c, load);
                Due.is("load " + load, x.pass(c), load);
                Due.book("it went", x, Due.SIGNS, at(c + 1, 77));
                Due.book("it went", x, Due.LOADS, at(c + 1, load));
            }
        }
    }

    @Says(promise = 14, value = "The load, in eighths (it may be below 0, or as a FAULT, as it was written).")
    static void p14PassLoadsLikeFaults() {
        for (int load : new int[] {-100000, -100002, -200000, -200002, -200006, -300000}) {
            for (int c = 1; c <= 2; c++) {
                FlightBooks x = bargeIn(c);
                Due.load(x, c, load);
                Due.likeAFault("load " + load, x, x.pass(c), load);
                Due.book("it went", x, Due.SIGNS, at(c + 1, 77));
                Due.book("it went", x, Due.LOADS, at(c + 1, load));
                Due.is("OUT", x.look(2), c == 2 ? load : 0);
            }
        }
    }

    @Says(promise = 14, value = "LOADS line c is READ, line c + 1 is WRITTEN so;")
    static void p14PassLoadsBeyondWhatACallMayTell() {
        for (int load : new int[] {16001, -16001, 2000000, -2000000}) {
            for (int c = 1; c <= 2; c++) {
                FlightBooks x = bargeIn(c);
                Due.load(x, c, load);
                Due.is("load " + load, x.pass(c), load);
                Due.book("it went so", x, Due.LOADS, at(c + 1, load));
                Due.is("OUT", x.look(2), c == 2 ? load : 0);
            }
        }
    }

    @Says(promise = 0, value = "FAULTS: of a BOOK that is MISSING -100000 less its number")
    static void p14PassEachBookIsMissing() {
        for (int c = 0; c < 3; c++) {
            for (int book : new int[] {Due.GATES, Due.SIGNS, Due.LOADS, Due.TOLLS}) {
                FlightBooks x = bargeIn(c);
                x.lose(book);
                if (c == 2 && book == Due.TOLLS) {
                    Due.is("TOLLS are not asked", x.pass(c), 40);
                } else {
                    Due.fault("book " + book, x, 0, x.pass(c), -100000 - book);
                    passedAheadOf(x, c, book);
                }
            }
            FlightBooks x = bargeIn(c);
            x.lose(Due.LEVELS);
            Due.is("LEVELS are not asked", x.pass(c), 40);
        }
    }

    /** The next load is written ahead of the next sign, both ahead of the toll. */
    private static void passedAheadOf(FlightBooks x, int c, int book) {
        int[] signs = at(c, 77);
        int[] loads = at(c, 40);
        if (book == Due.TOLLS) {
            signs[c + 1] = 77;
            loads[c + 1] = 40;
        }
        if (book != Due.SIGNS) {
            Due.book("SIGNS", x, Due.SIGNS, signs);
        }
        if (book != Due.LOADS) {
            Due.book("LOADS", x, Due.LOADS, loads);
        }
        if (book != Due.TOLLS) {
            Due.book("TOLLS", x, Due.TOLLS, 0, 0, 0);
        }
        Due.is("it is not OUT", x.look(1), 0);
        Due.is("it is not OUT", x.look(2), 0);
    }

    /** A book of so many lines, with its line c as for a barge in chamber c. */
    private static void shorten(FlightBooks x, int book, int lines, int c) {
        int was = x.read(book, c);
        x.keep(book, lines);
        if (c < lines) {
            x.write(book, c, was);
        }
    }

    @Says(promise = 0, value = "else of a line that it has not -200000 less its number.")
    static void p14PassEachBookHasNoLineC() {
        for (int c = 0; c < 3; c++) {
            for (int book : new int[] {Due.GATES, Due.SIGNS, Due.LOADS}) {
                FlightBooks x = bargeIn(c);
                shorten(x, book, c, c);
                Due.fault("book " + book, x, 0, x.pass(c), -200000 - book);
                passedAheadOf(x, c, book);
            }
        }
    }

    @Says(promise = 0, value = "else of a line that it has not -200000 less its number.")
    static void p14PassSignsHaveNoNextLine() {
        for (int c = 0; c < 2; c++) {
            FlightBooks x = bargeIn(c);
            shorten(x, Due.SIGNS, c + 1, c);
            Due.fault("SIGNS line c + 1", x, 0, x.pass(c), -200000);
            Due.book("the load stays", x, Due.LOADS, at(c, 40));
            Due.is("the sign stays", x.read(Due.SIGNS, c), 77);
        }
    }

    @Says(promise = 0, value = "else of a line that it has not -200000 less its number.")
    static void p14PassLoadsHaveNoNextLine() {
        for (int c = 0; c < 2; c++) {
            FlightBooks x = bargeIn(c);
            shorten(x, Due.LOADS, c + 1, c);
            Due.fault("LOADS line c + 1", x, 0, x.pass(c), -200002);
            Due.book("the signs stay", x, Due.SIGNS, at(c, 77));
            Due.book("no toll", x, Due.TOLLS, 0, 0, 0);
            Due.is("the load stays", x.read(Due.LOADS, c), 40);
        }
    }

    @Says(promise = 0, value = "the first FAULT ends it and is its answer; what was told ahead of that is done.")
    static void p14PassTollsHaveNoNextLine() {
        for (int c = 0; c < 2; c++) {
            FlightBooks x = bargeIn(c);
            x.keep(Due.TOLLS, c + 1);
            Due.fault("TOLLS line c + 1", x, 0, x.pass(c), -200004);
            Due.is("the next load is written", x.read(Due.LOADS, c + 1), 40);
            Due.is("the next sign is written", x.read(Due.SIGNS, c + 1), 77);
            Due.is("the load is not yet 0", x.read(Due.LOADS, c), 40);
            Due.is("the sign is not yet 0", x.read(Due.SIGNS, c), 77);
            Due.book("no toll", x, Due.TOLLS, new int[c + 1]);
            Due.is("the next is taken now", x.pass(c), -4);
        }
    }

    @Says(promise = 14, value = "Then of all: LOADS line c is WRITTEN: 0, SIGNS line c is WRITTEN: 0.")
    static void p14PassLeavesChamberEmpty() {
        for (int c = 0; c < 3; c++) {
            FlightBooks x = bargeIn(c);
            x.pass(c);
            Due.is("no load", x.read(Due.LOADS, c), 0);
            Due.is("no sign", x.read(Due.SIGNS, c), 0);
            Due.is("the gate is open", x.read(Due.GATES, c), 1);
            Due.is("no barge to go on", x.pass(c), -3);
        }
    }

    @Says(promise = 10, value = "REFUSED: there is no such chamber (here and below).")
    static void p14PassNoSuchChamber() {
        for (int c : NO_CHAMBERS_OF_3) {
            FlightBooks x = new FlightBooks(3);
            Due.refused("ahead of MISSING", x, x.pass(c));
            x = Due.withBooks(3, 24);
            for (int line = 0; line < 24; line++) {
                x.write(Due.GATES, line, 1);
                x.write(Due.SIGNS, line, 1);
            }
            Due.refused("pass(" + c + ")", x, x.pass(c));
            Due.is("nothing is done", x.tally(Due.SIGNS), 24);
            Due.is("none is OUT", x.look(1), 0);
        }
    }
}
