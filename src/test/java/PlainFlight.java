import java.util.ArrayList;
import java.util.Collections;
import java.util.List;

/**
 * The document told once more, sentence by sentence and in another form than the class: books are
 * lists or null, loads are fractions, a FAULT is thrown. What AnyCallsTest asks of the class is due
 * by it.
 */
final class PlainFlight {
    private static final int SIGNS = 0;
    private static final int LEVELS = 1;
    private static final int LOADS = 2;
    private static final int GATES = 3;
    private static final int TOLLS = 4;

    @SuppressWarnings("serial")
    private static final class Fault extends RuntimeException {
        private final int number;

        private Fault(int number) {
            super("FAULT " + number, null, false, false);
            this.number = number;
        }
    }

    private final int n;
    private final List<List<Double>> books = new ArrayList<>(Collections.nCopies(5, null));
    private List<List<Integer>> chart = null;
    private final List<Double> loadsOut = new ArrayList<>();
    private final List<Integer> faults = new ArrayList<>();

    PlainFlight(int chambers) {
        n = chambers < 1 ? 1 : chambers > 24 ? 24 : chambers;
    }

    int answer(String call, int... a) {
        if (isRefused(call, a)) {
            return -300000;
        }
        try {
            return act(call, a);
        } catch (Fault fault) {
            faults.add(fault.number);
            return fault.number;
        }
    }

    private boolean isRefused(String call, int[] a) {
        switch (call) {
            case "keep": case "lose": case "lines": case "read": case "tally": case "note":
                return noBook(a[0]);
            case "write":
                return noBook(a[0]) || (a[0] == LOADS && beyond(a[2], -16000, 16000));
            case "change":
                return noBook(a[0]) || beyond(a[2], 0, 3)
                    || (a[0] == LOADS && a[2] < 2 && beyond(a[3], -16000, 16000));
            case "copy":
                return noBook(a[0]) || noBook(a[1]) || a[0] == a[1];
            case "sluice": case "open": case "shut": case "pass":
                return beyond(a[0], 0, n - 1);
            case "enter":
                return (char) a[0] == 0 || beyond(a[1], 0, 16000);
            case "look":
                return beyond(a[0], 0, 5);
            default:
                return false;
        }
    }

    private int act(String call, int[] a) {
        switch (call) {
            case "keep": return keep(a[0], a[1]);
            case "lose": return books.set(a[0], null) == null ? 0 : 1;
            case "lines": return book(a[0]).size();
            case "read": return read(a[0], a[1]);
            case "write": return write(a[0], a[1], a[2]);
            case "change": return change(a[0], a[1], a[2], a[3]);
            case "tally": return tally(a[0]);
            case "copy": return copy(a[0], a[1]);
            case "sluice": return sluice(a[0], a[1]);
            case "open": return open(a[0]);
            case "shut": return shut(a[0]);
            case "enter": return enter((char) a[0], a[1]);
            case "pass": return pass(a[0]);
            case "survey": return survey(a[0], a[1]);
            case "note": return note(a[0], a[1], a[2], a[3]);
            case "chart": return place(a[0], a[1]).get(a[1]);
            case "columns": return row(a[0]).size();
            case "look": return look(a[0]);
            default: throw new IllegalArgumentException(call);
        }
    }

    private static boolean beyond(int v, int lowest, int highest) {
        return v < lowest || v > highest;
    }

    private static boolean noBook(int book) {
        return beyond(book, SIGNS, TOLLS);
    }

    private List<Double> book(int book) {
        if (books.get(book) == null) {
            throw new Fault(-100000 - book);
        }
        return books.get(book);
    }

    private List<Double> line(int book, int line) {
        if (beyond(line, 0, book(book).size() - 1)) {
            throw new Fault(-200000 - book);
        }
        return book(book);
    }

    private int read(int book, int line) {
        double is = line(book, line).get(line);
        return (int) (book == LOADS ? is * 8 : is);
    }

    private int write(int book, int line, long v) {
        line(book, line).set(line, becomes(book, v));
        return 0;
    }

    private static double becomes(int book, long v) {
        switch (book) {
            case SIGNS: return Math.floorMod(v, 65536);
            case LEVELS: return Math.floorMod(v + 32768, 65536) - 32768;
            case LOADS: return (v < -2000000 ? -2000000 : v > 2000000 ? 2000000 : v) / 8.0;
            case GATES: return v % 2 == 0 ? 0 : 1;
            default: return Math.floorMod(v + 128, 256) - 128;
        }
    }

    private int change(int book, int line, int how, long v) {
        long was = read(book, line);
        if (book == GATES) {
            boolean isOpen = was == 1;
            boolean isOdd = v % 2 != 0;
            boolean[] then = {isOpen || isOdd, isOpen && isOdd, !isOpen, isOdd ? !isOpen : isOpen};
            write(book, line, then[how] ? 1 : 0);
        } else {
            long one = book == LOADS ? 8 : 1;
            long[] then = {was + v, was - v, was + one, was - one};
            write(book, line, then[how]);
        }
        return read(book, line);
    }

    private int keep(int book, int lines) {
        if (beyond(lines, 0, 24)) {
            return lines > 24 ? -2 : -3;
        }
        books.set(book, new ArrayList<>(Collections.nCopies(lines, 0.0)));
        return 0;
    }

    private int tally(int book) {
        int sum = 0;
        for (int line = 0; line < book(book).size(); line++) {
            sum += read(book, line);
        }
        return sum;
    }

    private int copy(int from, int to) {
        int lines = book(from).size();
        for (int line = 0; line < lines; line++) {
            int v = read(from, line);
            boolean isHigh = to == LOADS && beyond(v, -16000, 16000);
            write(to, line, !isHigh ? v : v < 0 ? -16000 : 16000);
        }
        return lines;
    }

    private int sluice(int c, int cm) {
        int was = change(LEVELS, c, 1, cm);
        if (c + 1 < n) {
            change(LEVELS, c + 1, 0, cm);
        }
        return was;
    }

    private int open(int c) {
        int level = read(LEVELS, c);
        int next = c + 1 < n ? read(LEVELS, c + 1) : 0;
        return level != next ? -2 : write(GATES, c, 1);
    }

    private int shut(int c) {
        int was = read(GATES, c);
        write(GATES, c, 0);
        return was;
    }

    private int enter(char sign, int load) {
        if (read(SIGNS, 0) != 0) {
            return -2;
        }
        if (load > 8 * read(LEVELS, 0)) {
            return -3;
        }
        write(LOADS, 0, load);
        write(SIGNS, 0, sign);
        return change(TOLLS, 0, 2, 0);
    }

    private int pass(int c) {
        if (read(GATES, c) == 0) {
            return -2;
        }
        int sign = read(SIGNS, c);
        if (sign == 0) {
            return -3;
        }
        int load;
        if (c == n - 1) {
            load = read(LOADS, c);
            loadsOut.add(load / 8.0);
        } else {
            if (read(SIGNS, c + 1) != 0) {
                return -4;
            }
            load = read(LOADS, c);
            write(LOADS, c + 1, load);
            write(SIGNS, c + 1, sign);
            change(TOLLS, c + 1, 2, 0);
        }
        write(LOADS, c, 0);
        write(SIGNS, c, 0);
        return load;
    }

    private int survey(int rows, int columns) {
        if (rows > 24 || columns > 24) {
            return -2;
        }
        if (rows < 0 || columns < 0) {
            return -3;
        }
        chart = new ArrayList<>();
        for (int row = 0; row < rows; row++) {
            chart.add(new ArrayList<>(Collections.nCopies(columns, 0)));
        }
        return 0;
    }

    private List<Integer> row(int row) {
        if (chart == null) {
            throw new Fault(-100005);
        }
        if (beyond(row, 0, chart.size() - 1)) {
            throw new Fault(-200005);
        }
        return chart.get(row);
    }

    private List<Integer> place(int row, int column) {
        if (beyond(column, 0, row(row).size() - 1)) {
            throw new Fault(-200006);
        }
        return row(row);
    }

    private int note(int book, int line, int row, int column) {
        int was = read(book, line);
        place(row, column).set(column, was);
        return 0;
    }

    private int look(int what) {
        double together = 0;
        for (double load : loadsOut) {
            together += load;
        }
        int kept = books.size() - Collections.frequency(books, null);
        int latest = faults.isEmpty() ? 0 : faults.get(faults.size() - 1);
        return new int[] {n, loadsOut.size(), (int) (together * 8), faults.size(), latest, kept}[what];
    }
}
