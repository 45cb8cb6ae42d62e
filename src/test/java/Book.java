import java.util.ArrayList;
import java.util.List;

/** A TraceBook whose calls are counted: behind the 512th the document promises nothing, so no test asks for more. */
final class Book {
    private static final int MOST_CALLS = 512;

    private final TraceBook book = new TraceBook();
    private final int mostCalls;
    private int calls = 0;

    private Book(int mostCalls, int... widths) {
        this.mostCalls = mostCalls;
        for (int width : widths) {
            wire(width);
        }
    }

    static Book of(int... widths) {
        return new Book(MOST_CALLS, widths);
    }

    /** So many wires of one width. */
    static Book ofMany(int wires, int width) {
        Book made = of();
        for (int w = 0; w < wires; w++) {
            made.wire(width);
        }
        return made;
    }

    /** For the limits that 512 calls can't reach. */
    static Book withoutEnd(int... widths) {
        return new Book(Integer.MAX_VALUE, widths);
    }

    private TraceBook counted() {
        if (calls == mostCalls) {
            throw new AssertionError("a test makes more than " + mostCalls + " calls of one book");
        }
        calls++;
        return book;
    }

    int callsLeft() {
        return mostCalls - calls;
    }

    int wire(int width) {
        return counted().wire(width);
    }

    int wires() {
        return counted().wires();
    }

    int width(int wire) {
        return counted().width(wire);
    }

    void open(long time, long step) {
        counted().open(time, step);
    }

    boolean change(int wire, int element, int value) {
        return counted().change(wire, element, value);
    }

    int close() {
        return counted().close();
    }

    int moments() {
        return counted().moments();
    }

    long moment(int m, int what) {
        return counted().moment(m, what);
    }

    int changed(int m, int c, int what) {
        return counted().changed(m, c, what);
    }

    int at(long time, long step, int wire, int element) {
        return counted().at(time, step, wire, element);
    }

    int next(int wire, int m) {
        return counted().next(wire, m);
    }

    int size() {
        return counted().size();
    }

    int byteAt(int i) {
        return counted().byteAt(i);
    }

    int feed(int four) {
        return counted().feed(four);
    }

    void end(int n) {
        counted().end(n);
    }

    int load() {
        return counted().load();
    }

    /** A moment with one change, left open. */
    Book with(long time, long step, int wire, int element, int value) {
        open(time, step);
        change(wire, element, value);
        return this;
    }

    /** Puts these bytes on the tape, which is empty. */
    Book tape(int... bytes) {
        for (int i = 0; i < bytes.length; i += 4) {
            int four = 0;
            for (int k = i; k < i + 4; k++) {
                four = four << 8 | (k < bytes.length ? bytes[k] : 0);
            }
            feed(four);
        }
        end(bytes.length);
        return this;
    }

    List<Integer> bytes() {
        List<Integer> all = new ArrayList<>();
        int size = size();
        for (int i = 0; i < size; i++) {
            all.add(byteAt(i));
        }
        return all;
    }

    /** The row as the asking calls show it: each moment's time, step, place, changes; then the bytes. */
    String row() {
        StringBuilder text = new StringBuilder();
        int moments = moments();
        for (int m = 0; m < moments; m++) {
            text.append('(').append(moment(m, 0)).append(", ").append(moment(m, 1)).append(") at ");
            text.append(moment(m, 3)).append(':');
            long changes = moment(m, 2);
            for (int c = 0; c < changes; c++) {
                text.append(' ').append(changed(m, c, 0)).append('.').append(changed(m, c, 1));
                text.append('=').append(changed(m, c, 2)).append('<').append(changed(m, c, 3));
            }
            text.append("; ");
        }
        return text.append(bytes()).toString();
    }
}
