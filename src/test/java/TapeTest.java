import java.util.Arrays;
import java.util.List;

/** Promises 15 to 17, sentence by sentence: feed, end, load. (LimitTest has the 60000 bytes.) */
public final class TapeTest {
    private static final long MOST = Check.MOST;
    private static final long MOST_COUNT = (1L << 62) - 1;

    public static void main(String[] args) {
        feedTakesTheHighestByteFirst();
        feedAnswersHowManyBytes();
        endKeepsTheFirstBytes();
        endRefusesBelowZero();
        endRefusesMoreThanTheTapeHas();
        loadEmptiesTheTape();
        loadMakesTheTapeTheRow();
        loadTakesARowForTheWiresThatThereAre();
        loadLeavesNoMomentOpen();
        loadTakesTheMomentsBeforeAway();
        loadMakesTheRowsLastTheLatest();
        loadOfAnEmptyTape();
        loadThatFailsChangesNothingElse();
        loadTellsTheFirstWrongCount();
        placeIsTheCountsFirstByte();
        tapeEndsTooEarly();
        tapeEndsWithinALongCount();
        countOfMoreBytesThanItNeeds();
        countBeyondTheGreatest();
        timeBeyondTheGreatest();
        stepBeyondTheGreatest();
        momentThatIsNotLater();
        timeToldOtherwise();
        momentOfNoChanges();
        wireThatIsNone();
        elementThatIsNone();
        changesThatDoNotRise();
        valueAboveEight();
        valueThatItHad();
        asLongATapeAsCallsCanBring();
        Check.finish();
    }

    /** Promise 15: "Four bytes more come to the TAPE, the highest of the number first". */
    private static void feedTakesTheHighestByteFirst() {
        Book book = Book.of(64);
        book.feed(0x0301_0081);
        book.feed(0x0785_0101);
        book.end(8);
        book.feed(0x00F1_0700);
        book.end(11);
        Check.due("load of three numbers' bytes", book.load(), TraceBook.NONE);
        Check.due("the row", book.bytes(), List.of(3, 1, 0, 129, 7, 133, 1, 1, 0, 241, 7));
    }

    /** Promise 15: "how many it has". */
    private static void feedAnswersHowManyBytes() {
        Book book = Book.of(1);
        int[] fours = {0, -1, 1, Integer.MIN_VALUE, Integer.MAX_VALUE, 0x03010001};
        for (int k = 0; k < fours.length; k++) {
            Check.due("feed(" + fours[k] + ") number " + k, book.feed(fours[k]), 4 * k + 4);
        }
        book.end(3);
        Check.due("feed behind end(3)", book.feed(0), 7);
        book.end(0);
        Check.due("feed behind end(0)", book.feed(0), 4);
        Book full = Book.of();
        for (int k = 1; k <= 512; k++) {
            Check.due("feed number " + k, full.feed(k), 4 * k);
        }
    }

    /** Promise 16: "The tape keeps its first n bytes." */
    private static void endKeepsTheFirstBytes() {
        int[] whole = {3, 1, 0, 1, 3, 1, 0, 2};
        for (int n = 0; n <= 8; n++) {
            Book book = Book.of(1).tape(whole);
            book.end(n);
            Check.due("feed behind end(" + n + ") of 8", book.feed(0), n + 4);
            book.end(n);
            book.load();
            Check.due("the row of the first " + n + " of 8", book.size(), n % 4 == 0 ? n : 0);
        }
        Book joined = Book.of(1).tape(whole);
        joined.end(3);
        joined.feed(0x08000000);
        joined.end(4);
        Check.due("load of kept and fed bytes", joined.load(), TraceBook.NONE);
        Check.due("their row", joined.bytes(), List.of(3, 1, 0, 8));
    }

    private static Book fed() {
        return Book.of(1).tape(3, 1, 0, 1);
    }

    /** Promise 16: "IllegalArgumentException when n is below 0". */
    private static void endRefusesBelowZero() {
        for (int n : new int[] {-1, -4, -60000, Integer.MIN_VALUE}) {
            Check.refused("end(" + n + ") of 4", TapeTest::fed, Check.ARGUMENT, x -> x.end(n));
            Check.refused("end(" + n + ") of none", () -> Book.of(1), Check.ARGUMENT, x -> x.end(n));
        }
        Check.taken("end(0) of 4", TapeTest::fed, x -> x.end(0));
        Check.taken("end(0) of none", () -> Book.of(1), x -> x.end(0));
    }

    /** Promise 16: "IllegalArgumentException when [..] it has not so many". */
    private static void endRefusesMoreThanTheTapeHas() {
        for (int n : new int[] {5, 6, 8, 64, 60000, Integer.MAX_VALUE}) {
            Check.refused("end(" + n + ") of 4", TapeTest::fed, Check.ARGUMENT, x -> x.end(n));
        }
        Check.taken("end(4) of 4", TapeTest::fed, x -> x.end(4));
        Check.refused("end(1) of none", () -> Book.of(1), Check.ARGUMENT, x -> x.end(1));
        Check.refused("end(3) behind end(2)", () -> Book.of(1).tape(3, 1), Check.ARGUMENT, x -> x.end(3));
        Check.taken("end(2) behind end(2)", () -> Book.of(1).tape(3, 1), x -> x.end(2));
        Check.refused("end(1) behind load", TapeTest::loaded, Check.ARGUMENT, x -> x.end(1));
    }

    private static Book loaded() {
        Book book = fed();
        book.load();
        return book;
    }

    /** Promise 17: "The tape, which is empty then", when it was a row and when it was none. */
    private static void loadEmptiesTheTape() {
        Check.due("feed behind load of a row", loaded().feed(0), 4);
        Check.due("a second load", loaded().load(), TraceBook.NONE);
        for (int[] bad : new int[][] {{0}, {3}, {3, 1, 0, 1, 0}, {3, 1, 0, 1, 3}}) {
            Book book = Book.of(1).tape(bad);
            int due = bad[bad.length - 1] == 0 ? bad.length - 1 : bad.length;
            Check.due("load of a bad tape", book.load(), due);
            Check.due("end(1) behind it", Check.answer(() -> {
                book.end(1);
                return "done";
            }), Check.ARGUMENT.getName());
            Check.due("feed behind it", book.feed(0x03010001), 4);
            Check.due("load of a row behind it", book.load(), TraceBook.NONE);
            Check.due("that row", book.bytes(), List.of(3, 1, 0, 1));
        }
    }

    /** Promise 17: "The tape [..] becomes the row". */
    private static void loadMakesTheTapeTheRow() {
        Book from = Book.of(2, 64).with(0, 3, 1, 63, 8).with(0, 5, 0, 1, 2);
        from.change(1, 63, 0);
        from.with(MOST, MOST, 0, 0, 1);
        from.change(1, 8, 1);
        from.close();
        int[] bytes = from.bytes().stream().mapToInt(Integer::intValue).toArray();
        Book to = Book.of(2, 64).tape(bytes);
        Check.due("load of a row", to.load(), TraceBook.NONE);
        Check.due("the row", to.row(), from.row());
        Check.due("at behind load", to.at(0, 4, 1, 63), 8);
        Check.due("at of a later moment", to.at(0, 5, 1, 63), 0);
        Check.due("next behind load", to.next(0, 0), 1);
        to = Book.of(2, 64).with(1, 1, 0, 0, 8).tape(bytes);
        Check.due("load in place of moments", to.load(), TraceBook.NONE);
        Check.due("the row then", to.row(), from.row());
    }

    /** Promise 17: "for the wires that there are". */
    private static void loadTakesARowForTheWiresThatThereAre() {
        int[] bytes = {3, 1, 1, 40};
        load("two wires, the second of width 3", -1, Book.of(1, 3), bytes);
        load("two wires, the second of width 2", 3, Book.of(1, 2), bytes);
        load("one wire", 2, Book.of(3), bytes);
        Book book = Book.of(1, 3).tape(bytes);
        book.load();
        Check.due("wires behind load", book.wires(), 2);
        Check.due("the width behind load", book.width(1), 3);
        Book later = Book.of(1).tape(bytes);
        later.wire(3);
        Check.due("load for a wire that came behind the tape", later.load(), TraceBook.NONE);
    }

    private static void load(String what, int due, Book book, int... bytes) {
        Check.due("load of " + Arrays.toString(bytes) + ", " + what, book.tape(bytes).load(), due);
    }

    /** Promise 17: "no moment is open then". */
    private static void loadLeavesNoMomentOpen() {
        for (int[] tape : new int[][] {{3, 1, 0, 1}, {}}) {
            Book book = Book.of(1).with(7, 7, 0, 0, 5).tape(tape);
            Check.due("load while a moment is open", book.load(), TraceBook.NONE);
            Check.due("close then", book.close(), TraceBook.NONE);
            Check.due("a change then", Check.answer(() -> book.change(0, 0, 1)), Check.STATE.getName());
            Check.due("size then", book.size(), tape.length);
        }
    }

    /** Promise 17: "moments before and their changes are gone". */
    private static void loadTakesTheMomentsBeforeAway() {
        Book book = Book.of(2, 2).with(0, 0, 0, 0, 4).with(6, 0, 1, 1, 5).with(7, 7, 0, 1, 6).tape(3, 1, 0, 17);
        book.load();
        Check.due("the row then", book.row(), "(0, 0) at 0: 0.1=1<0; [3, 1, 0, 17]");
        Check.due("at of what is gone", book.at(MOST, MOST, 0, 0), 0);
        Check.due("at of what is gone of wire 1", book.at(MOST, MOST, 1, 1), 0);
        Check.due("next of what is gone", book.next(1, 0), TraceBook.NONE);
        book.open(0, 1);
        Check.due("0 of what is gone", book.change(0, 0, 0), false);
        Check.due("4 of what is gone", book.change(0, 0, 4), true);
        Check.due("1 of the row", book.change(0, 1, 1), false);
        Check.due("6 of the moment that was open", book.change(0, 1, 6), true);
        Check.due("close", book.close(), 2);
        Check.due("the row behind it", book.row(),
            "(0, 0) at 0: 0.1=1<0; (0, 1) at 4: 0.0=4<0 0.1=6<1; [3, 1, 0, 17, 3, 2, 0, 4, 0, 22]");
    }

    /** Promise 17: "the latest one that was opened is the row's last". */
    private static void loadMakesTheRowsLastTheLatest() {
        int[] fiveFive = {10, 5, 1, 0, 2};
        Check.refused("open(5, 5) behind load of (5, 5)", () -> {
            Book book = Book.of(1).tape(fiveFive);
            book.load();
            return book;
        }, Check.ARGUMENT, x -> x.open(5, 5));
        Book earlier = Book.of(1).with(10, 0, 0, 0, 1).tape(fiveFive);
        earlier.load();
        earlier.open(5, 6);
        Check.due("a change of (5, 6) behind load of (5, 5)", earlier.change(0, 0, 1), true);
        earlier.close();
        Check.due("the row", earlier.row(), "(5, 5) at 0: 0.0=2<0; (5, 6) at 5: 0.0=1<2; [10, 5, 1, 0, 2, 3, 1, 0, 1]");
        Book last = Book.of(1).tape(254, 255, 255, 255, 255, 255, 255, 255, 31,
            255, 255, 255, 255, 255, 255, 255, 255, 15, 1, 0, 1);
        last.load();
        Check.due("the greatest moment behind load of it", Check.answer(() -> {
            last.open(MOST, MOST);
            return "done";
        }), Check.ARGUMENT.getName());
    }

    /** Promise 17: "(none for an empty row)". */
    private static void loadOfAnEmptyTape() {
        Book book = Book.of(1).with(5, 5, 0, 0, 4).with(5, 6, 0, 0, 5);
        Check.due("load of an empty tape", book.load(), TraceBook.NONE);
        Check.due("the row then", book.row(), "[]");
        Check.due("a wire then", book.wire(1), 1);
        book.open(0, 0);
        Check.due("0 then", book.change(0, 0, 0), false);
        Check.due("4 then", book.change(0, 0, 4), true);
        Check.due("close then", book.close(), 1);
        Check.due("the row behind it", book.row(), "(0, 0) at 0: 0.0=4<0; [3, 1, 0, 4]");
        Check.due("load without wires", Book.of().load(), TraceBook.NONE);
    }

    /** A moment in the row, an open one with a change, and a tape. */
    private static Book busy(int... tape) {
        return Book.of(2, 1, 64).with(5, 5, 0, 0, 1).with(7, 7, 0, 0, 2).tape(tape);
    }

    private static long[] counts(long... counts) {
        return counts;
    }

    private static int[] bytes(long[] counts) {
        int[] bytes = new int[9 * counts.length];
        int n = 0;
        for (long count : counts) {
            long rest = count;
            while (rest >= 128) {
                bytes[n++] = (int) (rest % 128) + 128;
                rest /= 128;
            }
            bytes[n++] = (int) rest;
        }
        return Arrays.copyOf(bytes, n);
    }

    private static int[] joined(int[] first, int... second) {
        int[] all = Arrays.copyOf(first, first.length + second.length);
        System.arraycopy(second, 0, all, first.length, second.length);
        return all;
    }

    /** load() takes the tape, with wires of 2, 1 and 64 elements; the row's bytes are the tape's then. */
    private static void good(int... tape) {
        Book book = busy(tape);
        Check.due("load of " + Arrays.toString(tape), book.load(), TraceBook.NONE);
        Check.due("the row of " + Arrays.toString(tape), book.bytes(), Arrays.stream(tape).boxed().toList());
        Check.due("close behind " + Arrays.toString(tape), book.close(), TraceBook.NONE);
    }

    private static void good(long[] counts) {
        good(bytes(counts));
    }

    /** load() tells this place of the tape, and changes nothing but the tape. */
    private static void fault(int place, int... tape) {
        Book book = busy(tape);
        Check.due("load of " + Arrays.toString(tape), book.load(), place);
        Check.due("what the book tells behind load of " + Arrays.toString(tape), Check.told(book), Check.told(busy()));
    }

    private static void fault(int place, long[] counts) {
        fault(place, bytes(counts));
    }

    /** Promise 17: "then nothing else than the tape is changed". */
    private static void loadThatFailsChangesNothingElse() {
        for (int[] tape : new int[][] {{3, 1, 0, 1, 0}, {3, 1, 0}, {1}}) {
            Book book = busy(tape);
            Check.due("load of a bad tape", book.load(), tape.length - (tape.length == 3 ? 0 : 1));
            Check.due("the row behind it", book.row(), "(5, 5) at 0: 0.0=1<0; [10, 5, 1, 0, 1]");
            Check.due("a value of the open moment", book.change(0, 0, 2), false);
            Check.due("the latest one that was opened", Check.answer(() -> {
                book.open(7, 7);
                return "done";
            }), Check.ARGUMENT.getName());
            Check.due("a change of the open moment", book.change(2, 63, 8), true);
            Check.due("close", book.close(), 2);
            Check.due("the row then", book.row(), "(5, 5) at 0: 0.0=1<0; (7, 7) at 5: 0.0=2<1 2.63=8<0; "
                + "[10, 5, 1, 0, 1, 4, 7, 2, 0, 2, 2, 248, 7]");
        }
        Book closed = Book.of(1).with(5, 5, 0, 0, 1);
        closed.open(7, 7);
        closed.close();
        Check.due("load of a bad tape behind a moment without changes", closed.tape(0).load(), 0);
        Check.due("close behind it", closed.close(), TraceBook.NONE);
        Check.due("the latest one that was opened, without changes", Check.answer(() -> {
            closed.open(7, 7);
            return "done";
        }), Check.ARGUMENT.getName());
        closed.open(7, 8);
        Check.due("close of the next", closed.close(), 0);
        Book loaded = Book.of(1).tape(10, 5, 1, 0, 1);
        loaded.load();
        Check.due("load of a bad tape behind a good one", loaded.tape(3, 1, 0, 9).load(), 3);
        Check.due("the row of the good one", loaded.row(), "(5, 5) at 0: 0.0=1<0; [10, 5, 1, 0, 1]");
        Check.due("its value", loaded.at(5, 5, 0, 0), 1);
        loaded.open(5, 6);
        Check.due("a change to its value", loaded.change(0, 0, 1), false);
    }

    /** Promise 17: "the place of the first count (its first byte) with which no row of these wires goes on". */
    private static void loadTellsTheFirstWrongCount() {
        fault(0, 0, 0, 0, 9);
        fault(1, 3, 0, 3, 9);
        fault(2, 3, 1, 3, 9);
        fault(3, 3, 1, 0, 9);
        fault(4, 3, 1, 0, 1, 1, 0, 3, 9);
        fault(5, 3, 2, 0, 1, 1, 9);
        fault(8, 3, 1, 2, 129, 7, 3, 1, 2, 128, 8, 7);
        fault(8, 3, 1, 2, 129, 7, 3, 1, 2, 129, 7);
    }

    /** Promise 17: "the place is that of the count's first byte", also when a wrong count has several bytes. */
    private static void placeIsTheCountsFirstByte() {
        fault(0, counts(2 * (MOST + 1), 0, 1, 0, 1));
        fault(1, counts(2, MOST + 1, 1, 0, 1));
        fault(1, 3, 128, 0, 0, 1);
        fault(2, 3, 1, 128, 1, 1);
        fault(3, 3, 1, 2, 137, 1);
        fault(6, counts(2, 200, 1, 0, 1, 2 * MOST, 0, 1, 0, 2));
        fault(8, counts(2, 200, 1, 0, 1, 300, MOST + 1, 1, 0, 2));
        fault(9, counts(2, 200, 1, 2, 1008 + 8, 301, 0, 2, 1008 + 7));
        fault(10, counts(2, 200, 1, 2, 1008 + 8, 301, 1, 200, 1008 + 7));
        fault(11, counts(2, 200, 1, 2, 1008 + 8, 301, 1, 2, 1008 + 8));
        good(counts(2, 200, 1, 2, 1008 + 8, 301, 1, 2, 1008 + 7));
    }

    /** Promise 17: "or the tape's length when it ends too early": behind each byte that is not a moment's last. */
    private static void tapeEndsTooEarly() {
        int[] whole = {3, 2, 0, 1, 2, 241, 7, 130, 1, 133, 2, 1, 1, 4, 131, 1, 1, 1, 5};
        List<Integer> ends = List.of(0, 7, 14, 19);
        for (int n = 0; n <= whole.length; n++) {
            int[] tape = Arrays.copyOf(whole, n);
            if (ends.contains(n)) {
                good(tape);
            } else {
                fault(n, tape);
            }
        }
        Check.due("a tape without wires that ends in its first count", Book.of().tape(131).load(), 1);
    }

    /** Promise 17, "when it ends too early" and "A count has more bytes than it needs, or one beyond 2^62 - 1": a count
     * of nine bytes may still end well, one of ten can't. */
    private static void tapeEndsWithinALongCount() {
        int[] nine = new int[9];
        Arrays.fill(nine, 128);
        for (int n = 1; n <= 9; n++) {
            fault(n, Arrays.copyOf(nine, n));
            fault(n + 1, joined(new int[] {2}, Arrays.copyOf(nine, n)));
        }
        for (int tenth : new int[] {0, 1, 127, 128, 255}) {
            fault(0, joined(nine, tenth));
            fault(1, joined(joined(new int[] {3}, nine), tenth));
        }
        fault(0, joined(joined(nine, 128), 128, 0));
    }

    /** Promise 17: "A count has more bytes than it needs", for each count that a moment has. */
    private static void countOfMoreBytesThanItNeeds() {
        good(2, 5, 1, 2, 1);
        fault(0, 130, 0, 5, 1, 2, 1);
        fault(1, 2, 133, 0, 1, 2, 1);
        fault(2, 2, 5, 129, 0, 2, 1);
        fault(3, 2, 5, 1, 130, 0, 1);
        fault(4, 2, 5, 1, 2, 129, 0);
        fault(1, 2, 128, 0, 1, 2, 1);
        fault(0, 131, 128, 0, 1, 0, 1);
        fault(1, 2, 128, 128, 128, 128, 128, 128, 128, 128, 0, 1, 0, 1);
        good(2, 128, 1, 1, 0, 1);
        good(2, 0, 1, 0, 1);
    }

    /** Promise 17: "or one beyond 2^62 - 1". */
    private static void countBeyondTheGreatest() {
        // as how many changes, where 2^62 - 1 is not wrong by itself: the tape ends too early
        fault(12, counts(3, MOST_COUNT, 0, 1));
        fault(1, 3, 128, 128, 128, 128, 128, 128, 128, 128, 64, 0, 1);
        fault(1, 3, 255, 255, 255, 255, 255, 255, 255, 255, 64, 0, 1);
        fault(1, 3, 255, 255, 255, 255, 255, 255, 255, 255, 127, 0, 1);
        for (int last : new int[] {63, 64, 127}) {
            fault(0, 255, 255, 255, 255, 255, 255, 255, 255, last, 1, 0, 1);
            fault(0, 254, 255, 255, 255, 255, 255, 255, 255, last, 0, 1, 0, 1);
            fault(1, 2, 255, 255, 255, 255, 255, 255, 255, 255, last, 1, 0, 1);
            fault(2, 3, 1, 255, 255, 255, 255, 255, 255, 255, 255, last, 1);
            fault(3, 3, 1, 0, 129, 128, 128, 128, 128, 128, 128, 128, last);
        }
    }

    /** Promise 17: "time [..] beyond 2^60 - 1". */
    private static void timeBeyondTheGreatest() {
        good(counts(2 * MOST, 0, 1, 0, 1));
        good(counts(2 * MOST, MOST, 1, 0, 1));
        fault(0, counts(2 * (MOST + 1), 0, 1, 0, 1));
        fault(0, counts(MOST_COUNT - 1, 0, 1, 0, 1));
        good(counts(2, 0, 1, 0, 1, 2 * (MOST - 1), 0, 1, 0, 2));
        fault(5, counts(2, 0, 1, 0, 1, 2 * MOST, 0, 1, 0, 2));
        fault(13, counts(2 * MOST, 0, 1, 0, 1, 2, 0, 1, 0, 2));
    }

    /** Promise 17: "step beyond 2^60 - 1". */
    private static void stepBeyondTheGreatest() {
        good(counts(2 * MOST + 3, 1, 0, 1));
        fault(0, counts(2 * MOST + 5, 1, 0, 1));
        fault(0, counts(MOST_COUNT, 1, 0, 1));
        good(counts(2, MOST, 1, 0, 1));
        fault(1, counts(2, MOST + 1, 1, 0, 1));
        fault(1, counts(2, MOST_COUNT, 1, 0, 1));
        good(counts(2, 7, 1, 0, 1, 2 * (MOST - 7) + 1, 1, 0, 2));
        fault(5, counts(2, 7, 1, 0, 1, 2 * (MOST - 6) + 1, 1, 0, 2));
        fault(13, counts(2, MOST, 1, 0, 1, 3, 1, 0, 2));
        good(counts(2, MOST, 1, 0, 1, 2, 0, 1, 0, 2));
    }

    /** Promise 17: "a moment that is not later": a d of 0. */
    private static void momentThatIsNotLater() {
        fault(0, 1, 1, 0, 1);
        good(3, 1, 0, 1);
        fault(4, 3, 1, 0, 1, 1, 1, 0, 2);
        good(3, 1, 0, 1, 3, 1, 0, 2);
        fault(5, 2, 9, 1, 0, 1, 1, 1, 0, 2);
    }

    /** Promise 17: "or tells its time otherwise than above": the time of the moment before by a t of 0. */
    private static void timeToldOtherwise() {
        fault(0, 0, 0, 1, 0, 1);
        fault(0, 0, 5, 1, 0, 1);
        fault(4, 3, 1, 0, 1, 0, 1, 1, 0, 2);
        fault(5, 2, 9, 1, 0, 1, 0, 10, 1, 0, 2);
        good(2, 0, 1, 0, 1, 2, 0, 1, 0, 2);
    }

    /** Promise 17: "a moment of no changes". */
    private static void momentOfNoChanges() {
        fault(1, 3, 0);
        fault(1, 3, 0, 3, 1, 0, 1);
        fault(2, 2, 0, 0);
        fault(5, 3, 1, 0, 1, 3, 0);
        good(3, 1, 0, 1, 5, 1, 0, 2);
    }

    /** Promise 17: "a wire [..] that is none". */
    private static void wireThatIsNone() {
        good(3, 1, 2, 1);
        fault(2, 3, 1, 3, 1);
        fault(2, counts(3, 1, 200, 1));
        fault(2, counts(3, 1, 1L << 32, 1));
        fault(2, counts(3, 1, MOST_COUNT, 1));
        good(3, 2, 1, 1, 1, 1);
        fault(4, 3, 2, 1, 1, 2, 1);
        good(3, 2, 2, 1, 0, 17);
        fault(4, 3, 2, 2, 1, 1, 1);
        fault(4, counts(3, 2, 2, 1, (1L << 32) - 2, 1));
        load("of no wires", 2, Book.of(), 3, 1, 0, 1);
        load("of 200 wires", TraceBook.NONE, Book.ofMany(200, 1), 3, 1, 199, 1, 1);
        load("of 200 wires", 2, Book.ofMany(200, 1), 3, 1, 200, 1, 1);
    }

    /** Promise 17: "a wire or element that is none": each wire has its own width. */
    private static void elementThatIsNone() {
        good(3, 1, 0, 17);
        fault(3, 3, 1, 0, 33);
        good(3, 1, 1, 1);
        fault(3, 3, 1, 1, 17);
        good(counts(3, 1, 2, 16 * 63 + 8));
        fault(3, counts(3, 1, 2, 16 * 64 + 1));
        fault(3, counts(3, 1, 2, 16L * (1L << 32) + 1));
        fault(3, counts(3, 1, 2, MOST_COUNT - 7));
        good(3, 2, 0, 1, 1, 1);
        fault(5, 3, 2, 0, 1, 1, 17);
    }

    /** Promise 17: "not rising". */
    private static void changesThatDoNotRise() {
        good(3, 2, 0, 1, 0, 17);
        fault(5, 3, 2, 0, 1, 0, 2);
        fault(5, 3, 2, 0, 17, 0, 1);
        fault(5, 3, 2, 0, 17, 0, 18);
        good(3, 2, 0, 17, 1, 1);
        good(3, 3, 0, 17, 1, 1, 1, 1);
        fault(7, 3, 3, 0, 1, 2, 17, 0, 1);
        good(3, 1, 2, 17, 3, 1, 2, 1);
    }

    /** Promise 17: "a value above 8". */
    private static void valueAboveEight() {
        for (int value = 1; value <= 8; value++) {
            good(3, 1, 0, value);
            good(3, 1, 0, 16 + value);
        }
        for (int value = 9; value <= 15; value++) {
            fault(3, 3, 1, 0, value);
            fault(3, 3, 1, 0, 16 + value);
            fault(3, counts(3, 1, 2, 16 * 63 + value));
        }
    }

    /** Promise 17: "or the one that it had": in the tape, not in the row before. */
    private static void valueThatItHad() {
        fault(3, 3, 1, 0, 0);
        fault(3, 3, 1, 0, 16);
        good(3, 1, 0, 1);
        good(3, 1, 0, 2);
        fault(7, 3, 1, 0, 8, 3, 1, 0, 8);
        good(3, 1, 0, 8, 3, 1, 0, 7);
        good(3, 1, 0, 8, 3, 1, 0, 0);
        fault(11, 3, 1, 0, 8, 3, 1, 0, 0, 3, 1, 0, 0);
        good(3, 1, 0, 8, 3, 1, 0, 0, 3, 1, 0, 8);
        fault(11, 3, 1, 0, 8, 3, 1, 0, 17 + 1, 3, 1, 0, 8);
    }

    /** Promises 15 to 17 with as long a tape as 512 calls can bring, of many moments or of many changes in one. */
    private static void asLongATapeAsCallsCanBring() {
        Book moments = Book.of(1);
        for (int m = 0; m < 504; m++) {
            moments.feed(0x03010000 + m % 8 + 1);
        }
        Check.due("load of 504 moments", moments.load(), TraceBook.NONE);
        Check.due("how many moments", moments.moments(), 504);
        Check.due("size", moments.size(), 2016);
        Check.due("the last one's step", moments.moment(503, 1), 503L);
        Check.due("the last one's place", moments.moment(503, 3), 2012L);
        Check.due("the value behind the last", moments.at(MOST, MOST, 0, 0), 8);

        Book changes = Book.ofMany(10, 64);
        long[] counts = new long[2 + 2 * 640];
        counts[0] = 3;
        counts[1] = 640;
        for (int c = 0; c < 640; c++) {
            counts[2 + 2 * c] = c > 0 && c % 64 == 0 ? 1 : 0;
            counts[3 + 2 * c] = 16 * (c % 64) + c % 8 + 1;
        }
        changes.tape(bytes(counts));
        Check.due("load of 640 changes", changes.load(), TraceBook.NONE);
        Check.due("how many changes", changes.moment(0, 2), 640L);
        Check.due("the last one's wire", changes.changed(0, 639, 0), 9);
        Check.due("the last one's element", changes.changed(0, 639, 1), 63);
        Check.due("the last one's value", changes.changed(0, 639, 2), 8);
        changes.open(0, 1);
        Check.due("the last one's value again", changes.change(9, 63, 8), false);
        Check.due("close", changes.close(), 0);
    }
}
