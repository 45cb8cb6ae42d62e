import java.util.List;

/** For each promise of the document: ordinary inputs, the edges that it names, and wrong inputs. */
public final class PromiseTest {
    private static final Class<IllegalArgumentException> ARGUMENT = IllegalArgumentException.class;
    private static final Class<IllegalStateException> STATE = IllegalStateException.class;
    private static final Class<IndexOutOfBoundsException> INDEX = IndexOutOfBoundsException.class;
    private static final long MOST = (1L << 60) - 1;

    public static void main(String[] args) {
        newBook();
        wire();
        wires();
        width();
        open();
        openRefuses();
        change();
        changeRefuses();
        close();
        moments();
        moment();
        changed();
        at();
        next();
        size();
        byteAt();
        counts();
        feed();
        end();
        loadTakes();
        loadKeeps();
        loadFaults();
        loadCountFaults();
        loadEndsEarly();
        loadAndOpen();
        Check.finish();
    }

    /** Three wires; moments (0,0), (0,5), (10,0), (10^12,3) with changes, (0,1) without. */
    private static TraceBook ordinary() {
        TraceBook book = Check.book(1, 8, 64);
        book.open(0, 0);
        book.change(1, 7, 2);
        book.change(0, 0, 3);
        book.open(0, 1);
        book.open(0, 5);
        book.change(2, 63, 8);
        book.change(2, 0, 1);
        book.open(10, 0);
        book.change(2, 0, 0);
        book.change(1, 7, 5);
        book.open(1000000000000L, 3);
        book.change(0, 0, 0);
        book.close();
        return book;
    }

    private static void newBook() {
        TraceBook book = new TraceBook();
        Check.due("wires of a new book", book.wires(), 0);
        Check.due("moments of a new book", book.moments(), 0);
        Check.due("size of a new book", book.size(), 0);
        Check.due("close of a new book", book.close(), TraceBook.NONE);
        Check.due("load of a new book", book.load(), -1);
        Check.refused("width(0) of a new book", book, INDEX, () -> book.width(0));
        Check.refused("moment(0, 0) of a new book", book, INDEX, () -> book.moment(0, 0));
        Check.refused("byteAt(0) of a new book", book, INDEX, () -> book.byteAt(0));
        Check.refused("end(1) of a new book", book, ARGUMENT, () -> book.end(1));
        book.open(0, 0);
        Check.due("close of a moment without wires", book.close(), 0);
    }

    private static void wire() {
        TraceBook book = new TraceBook();
        for (int width : new int[] {0, -1, 65, Integer.MIN_VALUE, Integer.MAX_VALUE}) {
            Check.refused("wire(" + width + ")", book, ARGUMENT, () -> book.wire(width));
        }
        for (int w = 0; w < 200; w++) {
            Check.due("the number of wire " + w, book.wire(w % 64 + 1), w);
        }
        Check.refused("wire 201", book, STATE, () -> book.wire(1));
        Check.refused("wire 201 of width 65", book, ARGUMENT, () -> book.wire(65));
        book.open(0, 0);
        Check.due("a change of the last wire", book.change(199, 7, 8), true);
        book.close();
        Check.due("its bytes", Check.bytes(book), List.of(3, 1, 199, 1, 16 * 7 + 8));

        TraceBook opened = Check.book(3);
        Check.refused("a moment that is none", opened, ARGUMENT, () -> opened.open(-1, 0));
        Check.due("a wire behind a refused moment", opened.wire(4), 1);
        opened.open(0, 0);
        Check.refused("a wire while a moment is open", opened, STATE, () -> opened.wire(1));
        Check.refused("a wire of width 0 while a moment is open", opened, ARGUMENT, () -> opened.wire(0));
        opened.close();
        Check.refused("a wire behind a moment of no changes", opened, STATE, () -> opened.wire(1));
    }

    private static void wires() {
        TraceBook book = Check.book(5, 5, 1);
        Check.due("wires()", book.wires(), 3);
        Check.refused("wire(0)", book, ARGUMENT, () -> book.wire(0));
        Check.due("wires() behind a refused wire", book.wires(), 3);
    }

    private static void width() {
        TraceBook book = Check.book(1, 64, 17);
        Check.due("width(0)", book.width(0), 1);
        Check.due("width(1)", book.width(1), 64);
        Check.due("width(2)", book.width(2), 17);
        for (int w : new int[] {-1, 3, 200, Integer.MIN_VALUE, Integer.MAX_VALUE}) {
            Check.refused("width(" + w + ")", book, INDEX, () -> book.width(w));
        }
    }

    private static void open() {
        TraceBook book = Check.book(1);
        book.open(0, 0);
        book.change(0, 0, 1);
        Check.due("moments while the first is open", book.moments(), 0);
        book.open(0, 1);
        Check.due("moments when the second is opened", book.moments(), 1);
        book.open(1, 0);
        Check.due("moments behind one of no changes", book.moments(), 1);
        book.open(MOST, MOST);
        Check.due("the last moment has changes", book.change(0, 0, 2), true);
        book.close();
        Check.due("the last moment's time", book.moment(1, 0), MOST);
        Check.due("the last moment's step", book.moment(1, 1), MOST);
        Check.refused("nothing is later", book, ARGUMENT, () -> book.open(MOST, MOST));
    }

    private static void openRefuses() {
        TraceBook book = Check.book(1);
        long[][] wrong = {{-1, 0}, {0, -1}, {MOST + 1, 0}, {0, MOST + 1},
            {Long.MIN_VALUE, 0}, {0, Long.MIN_VALUE}, {Long.MAX_VALUE, 0}, {0, Long.MAX_VALUE}};
        for (long[] one : wrong) {
            Check.refused("open(" + one[0] + ", " + one[1] + ")", book, ARGUMENT, () -> book.open(one[0], one[1]));
        }
        book.open(5, 5);
        book.change(0, 0, 4);
        long[][] early = {{5, 5}, {5, 4}, {4, 6}, {0, MOST}, {6, -1}, {6, MOST + 1}};
        for (long[] one : early) {
            Check.refused("open(" + one[0] + ", " + one[1] + ") behind (5, 5)", book, ARGUMENT,
                () -> book.open(one[0], one[1]));
        }
        Check.due("close behind refused moments", book.close(), 1);
        Check.refused("open(5, 5) again", book, ARGUMENT, () -> book.open(5, 5));
        book.open(7, 0);
        book.close();
        Check.refused("open as early as one of no changes", book, ARGUMENT, () -> book.open(7, 0));
        Check.refused("open before one of no changes", book, ARGUMENT, () -> book.open(6, 9));
        book.open(7, 1);
        Check.due("the next is open", book.close(), 0);
    }

    private static void change() {
        TraceBook book = Check.book(2, 3);
        book.open(1, 1);
        Check.due("the value 0 at first", book.change(0, 1, 0), false);
        Check.due("a new value", book.change(0, 1, 8), true);
        Check.due("the same value again", book.change(0, 1, 8), false);
        Check.due("another value", book.change(0, 1, 7), true);
        Check.due("a value to take back", book.change(1, 2, 1), true);
        Check.due("the value taken back", book.change(1, 2, 0), true);
        Check.due("the value taken back again", book.change(1, 2, 0), false);
        Check.due("an element before the others", book.change(0, 0, 2), true);
        Check.due("changes of the moment", book.close(), 2);
        Check.due("what changed", Check.shown(book), "wires 2 3; moment 1 1 2 0 (0 0 2 0) (0 1 7 0); "
            + "bytes [2, 1, 2, 0, 2, 0, 23]");
        book.open(1, 2);
        Check.due("the value of the moment before", book.change(0, 1, 7), false);
        Check.due("back to 0", book.change(0, 1, 0), true);
        Check.due("back to the moment before", book.change(0, 1, 7), true);
        Check.due("no change is left", book.close(), 0);
        Check.due("moments behind no change", book.moments(), 1);
    }

    private static void changeRefuses() {
        TraceBook book = Check.book(2, 3);
        Check.refused("a change before any moment", book, STATE, () -> book.change(0, 0, 1));
        Check.refused("a change to the same value before any moment", book, STATE, () -> book.change(0, 0, 0));
        Check.refused("no value, before any moment", book, ARGUMENT, () -> book.change(0, 0, 9));
        Check.refused("no element, before any moment", book, INDEX, () -> book.change(0, 2, 9));
        book.open(0, 0);
        book.change(0, 0, 1);
        int[][] nowhere = {{-1, 0}, {2, 0}, {0, -1}, {0, 2}, {1, 3}, {Integer.MAX_VALUE, 0},
            {Integer.MIN_VALUE, 0}, {0, Integer.MAX_VALUE}, {0, Integer.MIN_VALUE}};
        for (int[] one : nowhere) {
            Check.refused("change(" + one[0] + ", " + one[1] + ", 1)", book, INDEX,
                () -> book.change(one[0], one[1], 1));
            Check.refused("change(" + one[0] + ", " + one[1] + ", 9)", book, INDEX,
                () -> book.change(one[0], one[1], 9));
        }
        for (int value : new int[] {-1, 9, 15, 16, Integer.MIN_VALUE, Integer.MAX_VALUE}) {
            Check.refused("the value " + value, book, ARGUMENT, () -> book.change(0, 0, value));
        }
        Check.due("the changes that were taken", book.close(), 1);
        Check.refused("a change behind close", book, STATE, () -> book.change(0, 0, 2));
        Check.due("at behind a refused change", book.at(0, 0, 0, 0), 1);
    }

    private static void close() {
        TraceBook book = Check.book(2);
        Check.due("close before any moment", book.close(), -1);
        book.open(3, 3);
        Check.due("close of a moment of no changes", book.close(), 0);
        Check.due("close again", book.close(), -1);
        book.open(4, 3);
        book.change(0, 0, 5);
        book.change(0, 1, 5);
        Check.due("close of two changes", book.close(), 2);
        Check.due("close of none", book.close(), -1);
        Check.due("the row", Check.bytes(book), List.of(8, 3, 2, 0, 5, 0, 21));
        book.open(9, 9);
        book.open(9, 10);
        book.open(9, 11);
        Check.due("close of the last of three", book.close(), 0);
        Check.due("the row behind moments of no changes", book.size(), 7);
    }

    private static void moments() {
        TraceBook book = ordinary();
        Check.due("moments()", book.moments(), 4);
        book.open(MOST, 0);
        book.change(0, 0, 1);
        Check.due("moments() while one is open", book.moments(), 4);
        book.close();
        Check.due("moments() behind it", book.moments(), 5);
    }

    private static void moment() {
        TraceBook book = ordinary();
        long[][] due = {{0, 0, 2, 0}, {0, 5, 2, 6}, {10, 0, 2, 13}, {1000000000000L, 3, 1, 20}};
        for (int m = 0; m < due.length; m++) {
            for (int what = 0; what < 4; what++) {
                Check.due("moment(" + m + ", " + what + ")", book.moment(m, what), due[m][what]);
            }
        }
        for (int m : new int[] {-1, 4, Integer.MIN_VALUE, Integer.MAX_VALUE}) {
            Check.refused("moment(" + m + ", 0)", book, INDEX, () -> book.moment(m, 0));
            Check.refused("moment(" + m + ", 4)", book, INDEX, () -> book.moment(m, 4));
        }
        for (int what : new int[] {-1, 4, Integer.MIN_VALUE, Integer.MAX_VALUE}) {
            Check.refused("moment(0, " + what + ")", book, ARGUMENT, () -> book.moment(0, what));
        }
        book.open(MOST, 0);
        book.change(0, 0, 1);
        Check.refused("the open moment", book, INDEX, () -> book.moment(4, 0));
    }

    private static void changed() {
        TraceBook book = ordinary();
        int[][][] due = {{{0, 0, 3, 0}, {1, 7, 2, 0}}, {{2, 0, 1, 0}, {2, 63, 8, 0}},
            {{1, 7, 5, 2}, {2, 0, 0, 1}}, {{0, 0, 0, 3}}};
        for (int m = 0; m < due.length; m++) {
            for (int c = 0; c < due[m].length; c++) {
                for (int what = 0; what < 4; what++) {
                    Check.due("changed(" + m + ", " + c + ", " + what + ")", book.changed(m, c, what),
                        due[m][c][what]);
                }
            }
        }
        int[][] none = {{-1, 0}, {4, 0}, {0, -1}, {0, 2}, {3, 1}, {Integer.MAX_VALUE, 0}, {0, Integer.MAX_VALUE},
            {Integer.MIN_VALUE, 0}, {0, Integer.MIN_VALUE}};
        for (int[] one : none) {
            Check.refused("changed(" + one[0] + ", " + one[1] + ", 0)", book, INDEX,
                () -> book.changed(one[0], one[1], 0));
            Check.refused("changed(" + one[0] + ", " + one[1] + ", -1)", book, INDEX,
                () -> book.changed(one[0], one[1], -1));
        }
        for (int what : new int[] {-1, 4, Integer.MIN_VALUE, Integer.MAX_VALUE}) {
            Check.refused("changed(0, 0, " + what + ")", book, ARGUMENT, () -> book.changed(0, 0, what));
        }
    }

    private static void at() {
        TraceBook book = ordinary();
        Check.due("at its moment", book.at(0, 5, 2, 63), 8);
        Check.due("a step before", book.at(0, 4, 2, 63), 0);
        Check.due("before its moment in a later time", book.at(9, MOST, 1, 7), 2);
        Check.due("at the later moment", book.at(10, 0, 1, 7), 5);
        Check.due("a step below 0 of its time", book.at(10, -1, 1, 7), 2);
        Check.due("a time below 0", book.at(-1, MOST, 0, 0), 0);
        Check.due("the first moment", book.at(0, 0, 0, 0), 3);
        Check.due("no step of the first time", book.at(0, -1, 0, 0), 0);
        Check.due("the least time", book.at(Long.MIN_VALUE, Long.MIN_VALUE, 0, 0), 0);
        Check.due("the greatest time", book.at(Long.MAX_VALUE, Long.MAX_VALUE, 1, 7), 5);
        Check.due("an element that never changes", book.at(MOST, MOST, 1, 0), 0);
        book.open(MOST, 0);
        book.change(1, 7, 6);
        Check.due("not the open moment", book.at(MOST, MOST, 1, 7), 5);
        book.close();
        Check.due("the moment behind close", book.at(MOST, 0, 1, 7), 6);
        int[][] none = {{-1, 0}, {3, 0}, {0, 1}, {1, 8}, {2, 64}, {1, -1}, {Integer.MAX_VALUE, 0},
            {Integer.MIN_VALUE, 0}, {0, Integer.MAX_VALUE}, {0, Integer.MIN_VALUE}};
        for (int[] one : none) {
            Check.refused("at(0, 0, " + one[0] + ", " + one[1] + ")", book, INDEX,
                () -> book.at(0, 0, one[0], one[1]));
        }
    }

    private static void next() {
        TraceBook book = ordinary();
        int[][] due = {{0, 3, 3, 3, -1}, {0, 2, 2, -1, -1}, {1, 1, 2, -1, -1}};
        for (int w = 0; w < due.length; w++) {
            for (int m = 0; m < due[w].length; m++) {
                Check.due("next(" + w + ", " + m + ")", book.next(w, m), due[w][m]);
            }
            Check.due("next(" + w + ", far on)", book.next(w, Integer.MAX_VALUE), -1);
        }
        for (int w : new int[] {-1, 3, Integer.MIN_VALUE, Integer.MAX_VALUE}) {
            Check.refused("next(" + w + ", 0)", book, INDEX, () -> book.next(w, 0));
            Check.refused("next(" + w + ", -1)", book, INDEX, () -> book.next(w, -1));
        }
        Check.refused("next(0, -1)", book, ARGUMENT, () -> book.next(0, -1));
        Check.refused("next(0, least)", book, ARGUMENT, () -> book.next(0, Integer.MIN_VALUE));
        book.open(MOST, 0);
        book.change(1, 0, 6);
        Check.due("next while one is open", book.next(1, 3), -1);
    }

    private static void size() {
        TraceBook book = ordinary();
        Check.due("size()", book.size(), 30);
        book.open(MOST, MOST);
        book.change(0, 0, 8);
        Check.due("size() while one is open", book.size(), 30);
        book.close();
        Check.due("size() behind it", book.size(), 51);
        Check.tape(book, 3, 1, 0);
        Check.due("size() with a tape", book.size(), 51);
    }

    private static void byteAt() {
        TraceBook book = ordinary();
        int[] due = {3, 2, 0, 3, 1, 114, 11, 2, 2, 1, 0, 248, 7, 20, 0, 2, 1, 117, 1, 0,
            236, 191, 168, 202, 154, 58, 3, 1, 0, 0};
        for (int i = 0; i < due.length; i++) {
            Check.due("byteAt(" + i + ")", book.byteAt(i), due[i]);
        }
        for (int i : new int[] {-1, 30, Integer.MIN_VALUE, Integer.MAX_VALUE}) {
            Check.refused("byteAt(" + i + ")", book, INDEX, () -> book.byteAt(i));
        }
    }

    private static void counts() {
        TraceBook book = Check.book(64);
        book.open(0, 62);
        book.change(0, 7, 8);
        book.open(0, 62 + 63);
        book.change(0, 8, 0);
        book.change(0, 7, 0);
        book.open(64, 127);
        book.change(0, 8, 1);
        book.open(64 + 63, 128);
        book.change(0, 8, 0);
        book.close();
        Check.due("counts about 127 and 128", Check.bytes(book),
            List.of(127, 1, 0, 120, 127, 1, 0, 112, 128, 1, 127, 1, 0, 129, 1, 126, 128, 1, 1, 0, 128, 1));

        TraceBook far = Check.book(1);
        far.open(0, MOST);
        far.change(0, 0, 1);
        far.open(MOST, MOST);
        far.change(0, 0, 2);
        far.close();
        Check.due("the greatest counts", Check.bytes(far), List.of(129, 128, 128, 128, 128, 128, 128, 128, 32, 1, 0, 1,
            254, 255, 255, 255, 255, 255, 255, 255, 31, 255, 255, 255, 255, 255, 255, 255, 255, 15, 1, 0, 2));
    }

    private static void feed() {
        TraceBook book = Check.book(64);
        Check.due("the first feed", book.feed(0x03010081), 4);
        Check.due("the second feed", book.feed(0x07FFFFFF), 8);
        book.end(5);
        Check.due("load", book.load(), -1);
        Check.due("the row, the highest byte first", Check.bytes(book), List.of(3, 1, 0, 129, 7));
        Check.due("the change", book.changed(0, 0, 1), 56);
        Check.due("a feed behind load", book.feed(-1), 4);
        book.end(3);
        Check.due("a feed behind end", book.feed(-1), 7);
    }

    private static void end() {
        TraceBook book = Check.book(4);
        Check.refused("end(1) of an empty tape", book, ARGUMENT, () -> book.end(1));
        book.end(0);
        book.feed(0x03010001);
        for (int n : new int[] {-1, 5, Integer.MIN_VALUE, Integer.MAX_VALUE}) {
            Check.refused("end(" + n + ")", book, ARGUMENT, () -> book.end(n));
        }
        book.end(4);
        Check.due("the tape behind end(4)", book.feed(0x03010002), 8);
        book.end(6);
        Check.refused("end(7) behind end(6)", book, ARGUMENT, () -> book.end(7));
        book.end(4);
        Check.due("load of the first bytes", book.load(), -1);
        Check.due("the row", Check.bytes(book), List.of(3, 1, 0, 1));
        book.feed(-1);
        book.end(0);
        Check.due("load of no bytes", book.load(), -1);
        Check.due("the empty row", book.size(), 0);
    }

    private static void loadTakes() {
        TraceBook from = ordinary();
        TraceBook to = Check.book(1, 8, 64);
        to.open(77, 77);
        to.change(0, 0, 7);
        to.close();
        Check.tape(to, Check.bytes(from).stream().mapToInt(Integer::intValue).toArray());
        Check.due("load of a row", to.load(), -1);
        Check.due("all that it shows", Check.shown(to), Check.shown(from));
        Check.refused("the tape is empty then", to, ARGUMENT, () -> to.end(1));
        Check.due("at behind load", to.at(10, 0, 1, 7), 5);
        Check.due("at of what is gone", to.at(77, 77, 0, 0), 3);
        Check.due("next behind load", to.next(1, 1), 2);
        to.open(1000000000000L, 4);
        Check.due("the value before is the row's", to.change(1, 7, 5), false);
        Check.due("the value 0 is the row's", to.change(0, 0, 0), false);
        Check.due("a change behind load", to.change(2, 63, 7), true);
        to.close();
        Check.due("the value before", to.changed(4, 0, 3), 8);
        Check.due("the place of the next moment", to.moment(4, 3), 30L);
        Check.due("its bytes", Check.bytes(to).subList(30, 35), List.of(3, 1, 2, 247, 7));
    }

    private static void loadKeeps() {
        TraceBook book = ordinary();
        String before = Check.shown(book);
        book.open(MOST, 5);
        book.change(0, 0, 6);
        Check.tape(book, 3, 1, 0, 1, 0);
        Check.due("load of a bad tape", book.load(), 4);
        Check.due("what a bad tape leaves", Check.shown(book), before);
        Check.refused("the tape is empty behind a fault", book, ARGUMENT, () -> book.end(1));
        Check.due("the moment is open still", book.change(0, 0, 6), false);
        Check.refused("the latest moment is the same still", book, ARGUMENT, () -> book.open(MOST, 5));
        Check.due("the moment's changes are there still", book.close(), 1);
        Check.due("its value before", book.changed(4, 0, 3), 0);
        Check.tape(book, 3, 1, 0, 1);
        Check.due("a good tape behind a bad one", book.load(), -1);
        Check.due("it shows", Check.shown(book), "wires 1 8 64; moment 0 0 1 0 (0 0 1 0); bytes [3, 1, 0, 1]");
        String loaded = Check.shown(book);
        Check.tape(book, 3, 1, 0, 2, 0);
        Check.due("a bad tape behind a good one", book.load(), 4);
        Check.due("what it leaves", Check.shown(book), loaded);
    }

    /** What load() says of a tape, with wires of 2, 1 and 64 elements; nothing may have changed. */
    private static void fault(int want, int... bytes) {
        TraceBook book = Check.book(2, 1, 64);
        book.open(1, 1);
        book.change(0, 0, 1);
        book.open(2, 2);
        book.change(0, 0, 2);
        String before = Check.shown(book);
        Check.tape(book, bytes);
        String what = "load of " + java.util.Arrays.toString(bytes);
        Check.due(what, book.load(), want);
        if (want >= 0) {
            Check.due(what + ": the row", Check.shown(book), before);
            Check.due(what + ": the open moment", book.close(), 1);
        } else {
            Check.due(what + ": the row", Check.bytes(book), java.util.Arrays.stream(bytes).boxed().toList());
            Check.due(what + ": the open moment", book.close(), -1);
        }
    }

    private static void loadFaults() {
        fault(-1, 3, 1, 0, 1, 3, 1, 0, 2);
        fault(0, 0, 0, 1, 0, 1);
        fault(0, 1, 1, 0, 1);
        fault(4, 3, 1, 0, 1, 1, 1, 0, 2);
        fault(4, 3, 1, 0, 1, 0, 1, 1, 0, 2);
        fault(1, 3, 0, 0, 1);
        fault(1, 3, 0);
        fault(2, 3, 1, 3, 1);
        fault(3, 3, 1, 0, 33);
        fault(3, 3, 1, 1, 17);
        fault(-1, 3, 1, 2, 241, 7);
        fault(3, 3, 1, 2, 129, 8);
        fault(3, 3, 1, 0, 9);
        fault(3, 3, 1, 0, 15);
        fault(-1, 3, 1, 0, 8);
        fault(3, 3, 1, 0, 0);
        fault(7, 3, 1, 0, 1, 3, 1, 0, 1);
        fault(-1, 3, 1, 0, 1, 3, 1, 0, 0);
        fault(-1, 3, 2, 0, 1, 0, 17);
        fault(5, 3, 2, 0, 1, 0, 2);
        fault(5, 3, 2, 0, 17, 0, 1);
        fault(5, 3, 2, 0, 17, 0, 33);
        fault(-1, 3, 2, 0, 17, 1, 1);
        fault(4, 3, 2, 0, 17, 3, 1);
        fault(4, 3, 2, 2, 17, 1, 1);
        fault(6, 3, 127, 1, 1, 1, 1, 1, 1);
        fault(2, 3, 1, 255, 255, 255, 255, 255, 255, 255, 255, 63, 1);
        fault(3, 3, 1, 0, 241, 255, 255, 255, 255, 255, 255, 255, 63);
        fault(-1, 2, 0, 1, 0, 1);
    }

    private static void loadCountFaults() {
        fault(0, 131, 0, 1, 0, 1);
        fault(1, 3, 129, 0, 0, 1);
        fault(1, 2, 128, 0, 1, 0, 1);
        fault(2, 3, 1, 128, 0, 1);
        fault(3, 3, 1, 0, 129, 0);
        // 2^62 - 1 and 2^62 as the first moment's time; 2^60 - 1 and 2^60 as its step
        fault(0, 255, 255, 255, 255, 255, 255, 255, 255, 63, 1, 0, 1);
        fault(0, 128, 128, 128, 128, 128, 128, 128, 128, 64, 0, 1, 0, 1);
        fault(-1, 129, 128, 128, 128, 128, 128, 128, 128, 32, 1, 0, 1);
        fault(0, 131, 128, 128, 128, 128, 128, 128, 128, 32, 1, 0, 1);
        // 2^60 - 1 and 2^60 as a time, and as a step behind a time
        fault(-1, 254, 255, 255, 255, 255, 255, 255, 255, 31, 0, 1, 0, 1);
        fault(0, 128, 128, 128, 128, 128, 128, 128, 128, 32, 0, 1, 0, 1);
        fault(-1, 2, 255, 255, 255, 255, 255, 255, 255, 255, 15, 1, 0, 1);
        fault(1, 2, 128, 128, 128, 128, 128, 128, 128, 128, 16, 1, 0, 1);
        // the moments behind those of the greatest time and step
        fault(13, 254, 255, 255, 255, 255, 255, 255, 255, 31, 0, 1, 0, 1, 2, 0, 1, 0, 2);
        fault(12, 129, 128, 128, 128, 128, 128, 128, 128, 32, 1, 0, 1, 3, 1, 0, 2);
        // how many changes: 2^62 - 1, which end too early, and 2^62
        fault(12, 3, 255, 255, 255, 255, 255, 255, 255, 255, 63, 0, 1);
        fault(1, 3, 128, 128, 128, 128, 128, 128, 128, 128, 64, 0, 1);
        // nine bytes that go on are wrong as soon as the tape has a tenth
        fault(9, 128, 128, 128, 128, 128, 128, 128, 128, 128);
        fault(9, 255, 255, 255, 255, 255, 255, 255, 255, 255);
        fault(0, 128, 128, 128, 128, 128, 128, 128, 128, 128, 128);
        fault(0, 128, 128, 128, 128, 128, 128, 128, 128, 128, 0);
        fault(0, 128, 128, 128, 128, 128, 128, 128, 128, 128, 1);
        fault(1, 3, 128, 128, 128, 128, 128, 128, 128, 128, 128, 128, 128);
    }

    private static void loadEndsEarly() {
        int[] whole = {3, 2, 0, 1, 2, 241, 7, 130, 1, 5, 1, 1, 4};
        for (int n = 0; n <= whole.length; n++) {
            boolean good = n == 0 || n == 7 || n == whole.length;
            fault(good ? -1 : n, java.util.Arrays.copyOf(whole, n));
        }
    }

    private static void loadAndOpen() {
        TraceBook book = Check.book(2);
        book.open(100, 100);
        book.change(0, 0, 1);
        Check.tape(book, 4, 7, 1, 0, 1);
        Check.due("load while one is open", book.load(), -1);
        Check.due("no moment is open then", book.close(), -1);
        Check.refused("no change then", book, STATE, () -> book.change(0, 0, 2));
        Check.refused("no wire then", book, STATE, () -> book.wire(1));
        Check.refused("open at the row's last", book, ARGUMENT, () -> book.open(2, 7));
        book.open(2, 8);
        book.change(0, 0, 3);
        Check.due("load of an empty tape", book.load(), -1);
        Check.due("moments then", book.moments(), 0);
        Check.due("size then", book.size(), 0);
        Check.due("close then", book.close(), -1);
        Check.due("a wire then", book.wire(1), 1);
        book.open(0, 0);
        Check.due("all are 0 then", book.change(0, 0, 0), false);
        book.change(1, 0, 1);
        book.close();
        Check.due("the row then", Check.bytes(book), List.of(3, 1, 1, 1));
    }
}
