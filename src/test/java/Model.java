import java.math.BigInteger;
import java.util.ArrayList;
import java.util.List;

/** The document's words in their slowest form: each moment keeps all values, each answer is found anew. */
final class Model {
    static final long NONE = -1;
    private static final long MOST = (1L << 60) - 1;
    private static final BigInteger MOST_COUNT = BigInteger.ONE.shiftLeft(62).subtract(BigInteger.ONE);

    /** A moment, and all values behind it. */
    private record Point(long time, long step, int[][] values) {
    }

    /** Where a tape goes wrong. */
    private static final class Fault extends RuntimeException {
        private static final long serialVersionUID = 1;
        private final int place;

        Fault(int place) {
            this.place = place;
        }
    }

    final List<Integer> widths = new ArrayList<>();
    private List<Point> points = new ArrayList<>();
    private final List<Integer> tape = new ArrayList<>();
    private Point latest = null;
    private boolean open = false;

    long wire(int width) {
        argument(width >= 1 && width <= 64);
        state(widths.size() < 200 && latest == null);
        widths.add(width);
        return widths.size() - 1;
    }

    long width(int wire) {
        index(isWire(wire));
        return widths.get(wire);
    }

    long open(long time, long step) {
        argument(time >= 0 && time <= MOST && step >= 0 && step <= MOST);
        argument(latest == null || later(time, step, latest));
        closeIt();
        latest = new Point(time, step, copy(behind()));
        open = true;
        return 0;
    }

    long change(int wire, int element, int value) {
        index(isElement(wire, element));
        argument(value >= 0 && value <= 8);
        state(open);
        int had = latest.values[wire][element];
        latest.values[wire][element] = value;
        return had == value ? 0 : 1;
    }

    long close() {
        return open ? closeIt() : NONE;
    }

    private long closeIt() {
        if (!open) {
            return NONE;
        }
        int changes = changes(behind(), latest.values).size();
        if (changes > 0) {
            points.add(latest);
            if (row().size() > 60000) {
                points.remove(points.size() - 1);
                throw new IllegalStateException();
            }
        }
        open = false;
        return changes;
    }

    long moments() {
        return points.size();
    }

    long moment(int m, int what) {
        index(m >= 0 && m < points.size());
        argument(what >= 0 && what <= 3);
        Point one = points.get(m);
        long[] answers = {one.time, one.step, changesOf(points, m).size(), row(points.subList(0, m)).size()};
        return answers[what];
    }

    long changed(int m, int c, int what) {
        index(m >= 0 && m < points.size() && c >= 0 && c < changesOf(points, m).size());
        argument(what >= 0 && what <= 3);
        return changesOf(points, m).get(c)[what];
    }

    long at(long time, long step, int wire, int element) {
        index(isElement(wire, element));
        int value = 0;
        for (Point one : points) {
            if (!later(one.time, one.step, new Point(time, step, null))) {
                value = one.values[wire][element];
            }
        }
        return value;
    }

    long next(int wire, int m) {
        index(isWire(wire));
        argument(m >= 0);
        for (int i = m; i < points.size(); i++) {
            if (changesOf(points, i).stream().anyMatch(change -> change[0] == wire)) {
                return i;
            }
        }
        return NONE;
    }

    List<Integer> row() {
        return row(points);
    }

    long byteAt(int i) {
        List<Integer> bytes = row();
        index(i >= 0 && i < bytes.size());
        return bytes.get(i);
    }

    long feed(int four) {
        state(tape.size() + 4 <= 60000);
        for (byte one : BigInteger.valueOf((four & 0xFFFFFFFFL) | 1L << 40).toByteArray()) {
            tape.add(one & 255);
        }
        // the number was led by a one and a zero byte, so that all four bytes are told
        tape.remove(tape.size() - 5);
        tape.remove(tape.size() - 5);
        return tape.size();
    }

    long end(int n) {
        argument(n >= 0 && n <= tape.size());
        tape.subList(n, tape.size()).clear();
        return 0;
    }

    long load() {
        List<Integer> bytes = new ArrayList<>(tape);
        tape.clear();
        try {
            points = read(bytes);
        } catch (Fault fault) {
            return fault.place;
        }
        latest = points.isEmpty() ? null : points.get(points.size() - 1);
        open = false;
        return NONE;
    }

    private static void argument(boolean good) {
        if (!good) {
            throw new IllegalArgumentException();
        }
    }

    private static void state(boolean good) {
        if (!good) {
            throw new IllegalStateException();
        }
    }

    private static void index(boolean good) {
        if (!good) {
            throw new IndexOutOfBoundsException();
        }
    }

    private boolean isWire(int wire) {
        return wire >= 0 && wire < widths.size();
    }

    private boolean isElement(int wire, int element) {
        return isWire(wire) && element >= 0 && element < widths.get(wire);
    }

    private static boolean later(long time, long step, Point other) {
        return time > other.time || time == other.time && step > other.step;
    }

    private int[][] zeros() {
        int[][] zeros = new int[widths.size()][];
        for (int w = 0; w < zeros.length; w++) {
            zeros[w] = new int[widths.get(w)];
        }
        return zeros;
    }

    private int[][] behind() {
        return points.isEmpty() ? zeros() : points.get(points.size() - 1).values;
    }

    private static int[][] copy(int[][] values) {
        int[][] copied = values.clone();
        for (int w = 0; w < copied.length; w++) {
            copied[w] = values[w].clone();
        }
        return copied;
    }

    /** Of each element that has another value: wire, element, value, value before. */
    private static List<int[]> changes(int[][] before, int[][] after) {
        List<int[]> all = new ArrayList<>();
        for (int w = 0; w < after.length; w++) {
            for (int e = 0; e < after[w].length; e++) {
                if (before[w][e] != after[w][e]) {
                    all.add(new int[] {w, e, after[w][e], before[w][e]});
                }
            }
        }
        return all;
    }

    private List<int[]> changesOf(List<Point> all, int m) {
        return changes(m == 0 ? zeros() : all.get(m - 1).values, all.get(m).values);
    }

    private List<Integer> row(List<Point> all) {
        List<Integer> bytes = new ArrayList<>();
        Point last = new Point(0, -1, null);
        for (int m = 0; m < all.size(); m++) {
            Point one = all.get(m);
            if (one.time == last.time) {
                count(bytes, 2 * (one.step - last.step) + 1);
            } else {
                count(bytes, 2 * (one.time - last.time));
                count(bytes, one.step);
            }
            List<int[]> changes = changesOf(all, m);
            count(bytes, changes.size());
            int wire = 0;
            for (int[] change : changes) {
                count(bytes, change[0] - wire);
                count(bytes, 16 * change[1] + change[2]);
                wire = change[0];
            }
            last = one;
        }
        return bytes;
    }

    private static void count(List<Integer> bytes, long count) {
        String bits = Long.toBinaryString(count);
        while (bits.length() > 7) {
            bytes.add(128 + Integer.parseInt(bits.substring(bits.length() - 7), 2));
            bits = bits.substring(0, bits.length() - 7);
        }
        bytes.add(Integer.parseInt(bits, 2));
    }

    /** The count from a place on, and the place behind it. */
    private static long[] countAt(List<Integer> bytes, int place) {
        BigInteger count = BigInteger.ZERO;
        int i = place;
        while (i < bytes.size() && bytes.get(i) >= 128) {
            count = count.add(BigInteger.valueOf(bytes.get(i) - 128).shiftLeft(7 * (i - place)));
            i++;
        }
        if (i == bytes.size()) {
            throw new Fault(i - place > 9 ? place : i);
        }
        count = count.add(BigInteger.valueOf(bytes.get(i)).shiftLeft(7 * (i - place)));
        if (i > place && bytes.get(i) == 0 || count.compareTo(MOST_COUNT) > 0) {
            throw new Fault(place);
        }
        return new long[] {count.longValueExact(), i + 1};
    }

    private static void good(boolean good, int place) {
        if (!good) {
            throw new Fault(place);
        }
    }

    private List<Point> read(List<Integer> bytes) {
        List<Point> all = new ArrayList<>();
        int place = 0;
        Point last = new Point(0, -1, zeros());
        while (place < bytes.size()) {
            long[] count = countAt(bytes, place);
            long time = last.time;
            long step = last.step;
            if (count[0] % 2 == 1) {
                step += count[0] / 2;
                good(step <= MOST && step > last.step, place);
            } else {
                time += count[0] / 2;
                good(time <= MOST && time > last.time, place);
                place = (int) count[1];
                count = countAt(bytes, place);
                step = count[0];
                good(step <= MOST, place);
            }
            place = (int) count[1];
            count = countAt(bytes, place);
            good(count[0] > 0, place);
            place = (int) count[1];
            Point read = new Point(time, step, copy(last.values));
            place = readChanges(bytes, place, count[0], last, read);
            all.add(read);
            last = read;
        }
        return all;
    }

    private int readChanges(List<Integer> bytes, int start, long changes, Point last, Point read) {
        int place = start;
        long wire = 0;
        long element = -1;
        for (long c = 0; c < changes; c++) {
            long[] count = countAt(bytes, place);
            wire += count[0];
            good(wire < widths.size(), place);
            element = count[0] > 0 ? -1 : element;
            place = (int) count[1];
            count = countAt(bytes, place);
            long next = count[0] / 16;
            long value = count[0] % 16;
            good(next > element && next < widths.get((int) wire) && value <= 8
                && last.values[(int) wire][(int) next] != value, place);
            element = next;
            read.values[(int) wire][(int) next] = (int) value;
            place = (int) count[1];
        }
        return place;
    }
}
