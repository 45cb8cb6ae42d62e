import java.util.ArrayList;
import java.util.List;

/** The document's "Terms", sentence by sentence. */
public final class TermsTest {
    private static final long MOST = Check.MOST;

    public static void main(String[] args) {
        wiresAreNumberedAsTheyCome();
        leastAndGreatestWidth();
        leastAndGreatestValue();
        valuesAreZeroAtFirst();
        wiresComeBeforeTheFirstMoment();
        leastAndGreatestTimeAndStep();
        laterByItsTime();
        laterByItsStep();
        eachMomentIsLaterThanTheOneBefore();
        changesBelongToTheOpenMoment();
        eachElementHasAValueBehindAMoment();
        changesAreOfAnotherValueThanBefore();
        momentWithoutChangesIsNone();
        momentIsInTheRowOnceClosed();
        rowIsInOrder();
        countsOfOneToNineBytes();
        firstMomentAtTimeZero();
        firstMomentAtAnotherTime();
        momentOfTheSameTime();
        momentOfAnotherTime();
        toldFromTheMomentBeforeInTheRow();
        howManyChanges();
        changesInRisingOrder();
        howManyWiresFurther();
        elementAndValue();
        mostWires();
        refusedCallChangesNothing();
        exceptionNamedFirst();
        Check.finish();
    }

    /** Bytes of a count, written as the sentence on counts says. */
    private static void count(List<Integer> bytes, long count) {
        long rest = count;
        while (rest >= 128) {
            bytes.add((int) (rest % 128) + 128);
            rest /= 128;
        }
        bytes.add((int) rest);
    }

    private static List<Integer> counts(long... counts) {
        List<Integer> bytes = new ArrayList<>();
        for (long count : counts) {
            count(bytes, count);
        }
        return bytes;
    }

    /** The row's bytes are these counts. */
    private static void rowIs(String what, Book book, long... counts) {
        book.close();
        Check.due(what, book.bytes(), counts(counts));
    }

    /** Terms: "WIRES are numbered 0, 1, .. as they come". */
    private static void wiresAreNumberedAsTheyCome() {
        Book book = Book.of();
        int[] widths = {3, 64, 1, 3};
        for (int w = 0; w < widths.length; w++) {
            Check.due("the wire that comes as number " + w, book.wire(widths[w]), w);
        }
        for (int w = 0; w < widths.length; w++) {
            Check.due("the width of wire " + w, book.width(w), widths[w]);
        }
    }

    /** Terms: "each has a width of 1 .. 64 elements". */
    private static void leastAndGreatestWidth() {
        Book book = Book.of(1, 64);
        book.open(0, 0);
        Check.due("the one element of a wire of width 1", book.change(0, 0, 1), true);
        Check.due("the first element of a wire of width 64", book.change(1, 0, 1), true);
        Check.due("the last element of a wire of width 64", book.change(1, 63, 1), true);
        Check.refused("the second element of a wire of width 1", () -> Book.of(1, 64).with(0, 0, 0, 0, 1),
            Check.INDEX, x -> x.change(0, 1, 1));
        Check.refused("the 65th element of a wire of width 64", () -> Book.of(1, 64).with(0, 0, 0, 0, 1),
            Check.INDEX, x -> x.change(1, 64, 1));
        Check.refused("a wire of width 0", () -> Book.of(1, 64), Check.ARGUMENT, x -> x.wire(0));
        Check.refused("a wire of width 65", () -> Book.of(1, 64), Check.ARGUMENT, x -> x.wire(65));
    }

    /** Terms: "with values 0 .. 8". */
    private static void leastAndGreatestValue() {
        for (int value = 1; value <= 8; value++) {
            Book book = Book.of(1).with(0, 0, 0, 0, value);
            Check.due("close behind the value " + value, book.close(), 1);
            Check.due("the value " + value, book.at(0, 0, 0, 0), value);
            book.with(0, 1, 0, 0, 0);
            Check.due("close behind the value 0", book.close(), 1);
            Check.due("the value 0", book.at(0, 1, 0, 0), 0);
        }
        Check.refused("the value -1", () -> Book.of(1).with(0, 0, 0, 0, 8), Check.ARGUMENT, x -> x.change(0, 0, -1));
        Check.refused("the value 9", () -> Book.of(1).with(0, 0, 0, 0, 8), Check.ARGUMENT, x -> x.change(0, 0, 9));
    }

    /** Terms: "at first all 0". */
    private static void valuesAreZeroAtFirst() {
        Book book = Book.of(1, 64, 5);
        book.open(0, 0);
        for (int wire = 0; wire < 3; wire++) {
            for (int element = 0; element < book.width(wire); element++) {
                Check.due("0 at first: " + wire + "." + element, book.change(wire, element, 0), false);
                Check.due("0 at first, by at: " + wire + "." + element, book.at(0, 0, wire, element), 0);
            }
        }
        Check.due("close behind values that were 0", book.close(), 0);
        book.with(0, 1, 1, 63, 8).close();
        Check.due("the value before the first change", book.changed(0, 0, 3), 0);
    }

    /** Terms: "They come before the first moment." */
    private static void wiresComeBeforeTheFirstMoment() {
        Check.taken("a wire before the first moment", () -> Book.of(1), x -> x.wire(1));
        Check.refused("a wire behind the first moment's opening", () -> Book.of(1).with(0, 0, 0, 0, 1), Check.STATE,
            x -> x.wire(1));
    }

    /** Terms: "A MOMENT is a time and a step, both 0 .. 2^60 - 1". */
    private static void leastAndGreatestTimeAndStep() {
        long[][] taken = {{0, 0}, {0, MOST}, {MOST, 0}, {MOST, MOST}};
        for (long[] one : taken) {
            Book book = Book.of(1).with(one[0], one[1], 0, 0, 1);
            Check.due("close of (" + one[0] + ", " + one[1] + ")", book.close(), 1);
            Check.due("the time of (" + one[0] + ", " + one[1] + ")", book.moment(0, 0), one[0]);
            Check.due("the step of (" + one[0] + ", " + one[1] + ")", book.moment(0, 1), one[1]);
        }
        long[][] none = {{-1, 0}, {0, -1}, {MOST + 1, 0}, {0, MOST + 1}};
        for (long[] one : none) {
            Check.refused("open(" + one[0] + ", " + one[1] + ")", () -> Book.of(1), Check.ARGUMENT,
                x -> x.open(one[0], one[1]));
        }
    }

    private static void later(long time, long step) {
        Check.taken("open(" + time + ", " + step + ") behind (5, 5)", () -> Book.of(1).with(5, 5, 0, 0, 1),
            x -> x.open(time, step));
    }

    private static void notLater(long time, long step) {
        Check.refused("open(" + time + ", " + step + ") behind (5, 5)", () -> Book.of(1).with(5, 5, 0, 0, 1),
            Check.ARGUMENT, x -> x.open(time, step));
    }

    /** Terms: "one is LATER than another when its time is greater". */
    private static void laterByItsTime() {
        later(6, 5);
        later(6, 0);
        later(MOST, 0);
        notLater(4, 5);
        notLater(4, MOST);
        notLater(0, MOST);
    }

    /** Terms: "or the time is the same and its step is greater". */
    private static void laterByItsStep() {
        later(5, 6);
        later(5, MOST);
        notLater(5, 5);
        notLater(5, 4);
        notLater(5, 0);
    }

    /** Terms: "Moments are opened one after the other, each later than the one before". */
    private static void eachMomentIsLaterThanTheOneBefore() {
        long[][] rising = {{0, 0}, {0, 1}, {0, MOST}, {1, 0}, {1, 1}, {MOST, 0}, {MOST, MOST}};
        Book book = Book.of(1);
        for (int m = 0; m < rising.length; m++) {
            book.with(rising[m][0], rising[m][1], 0, 0, m + 1);
        }
        book.close();
        for (int m = 0; m < rising.length; m++) {
            Check.due("the time of moment " + m, book.moment(m, 0), rising[m][0]);
            Check.due("the step of moment " + m, book.moment(m, 1), rising[m][1]);
        }
    }

    /** Terms: "changes belong to the one that is open". */
    private static void changesBelongToTheOpenMoment() {
        Book book = Book.of(2).with(3, 0, 0, 0, 1).with(3, 1, 0, 1, 2).with(4, 0, 0, 0, 3);
        book.close();
        Check.due("each moment has its own change", book.row(), "(3, 0) at 0: 0.0=1<0; (3, 1) at 5: 0.1=2<0; "
            + "(4, 0) at 9: 0.0=3<1; [6, 0, 1, 0, 1, 3, 1, 0, 18, 2, 0, 1, 0, 3]");
    }

    /** Terms: "Behind all changes of a moment each element has a value": the last it got, or the one before. */
    private static void eachElementHasAValueBehindAMoment() {
        Book book = Book.of(3).with(0, 0, 0, 0, 8);
        book.change(0, 1, 5);
        book.open(0, 1);
        book.change(0, 1, 6);
        book.change(0, 1, 7);
        book.change(0, 2, 1);
        book.close();
        int[][] due = {{8, 5, 0}, {8, 7, 1}};
        for (int step = 0; step < 2; step++) {
            for (int element = 0; element < 3; element++) {
                Check.due("the value of element " + element + " behind (0, " + step + ")",
                    book.at(0, step, 0, element), due[step][element]);
            }
        }
    }

    /** Terms: "a moment's CHANGES are the elements that have another value than before it". */
    private static void changesAreOfAnotherValueThanBefore() {
        Book twice = Book.of(1).with(0, 0, 0, 0, 1);
        twice.change(0, 0, 2);
        Check.due("an element that gets two values is one change", twice.close(), 1);
        Check.due("it has the last value", twice.row(), "(0, 0) at 0: 0.0=2<0; [3, 1, 0, 2]");

        Book back = Book.of(1, 1).with(0, 0, 0, 0, 1).with(0, 1, 0, 0, 2);
        back.change(1, 0, 5);
        back.change(0, 0, 1);
        Check.due("an element that gets its value back is none", back.close(), 1);
        Check.due("the other element is one", back.row(),
            "(0, 0) at 0: 0.0=1<0; (0, 1) at 4: 1.0=5<0; [3, 1, 0, 1, 3, 1, 1, 5]");

        Book again = Book.of(1).with(0, 0, 0, 0, 1);
        again.change(0, 0, 0);
        again.change(0, 0, 1);
        Check.due("an element that leaves its value again is one", again.close(), 1);
        Check.due("its value before", again.changed(0, 0, 3), 0);
    }

    /** Terms: "A moment without any is none." */
    private static void momentWithoutChangesIsNone() {
        Book book = Book.of(1).with(0, 5, 0, 0, 1);
        book.open(0, 6);
        book.open(1, 0);
        book.change(0, 0, 1);
        book.open(1, 1);
        book.change(0, 0, 4);
        book.change(0, 0, 1);
        Check.due("close of the moment without changes", book.close(), 0);
        Check.due("the row", book.row(), "(0, 5) at 0: 0.0=1<0; [13, 1, 0, 1]");
        book.with(7, 7, 0, 0, 2).close();
        Check.due("next behind moments without changes", book.next(0, 1), 1);
    }

    /** Terms: "for the moments that have changes and are closed (each is when the next one is opened, or by
     * close())". */
    private static void momentIsInTheRowOnceClosed() {
        Book book = Book.of(1).with(0, 0, 0, 0, 1);
        Check.due("the row while the first moment is open", book.row(), "[]");
        book.open(0, 1);
        Check.due("the row when the next is opened", book.row(), "(0, 0) at 0: 0.0=1<0; [3, 1, 0, 1]");
        book.change(0, 0, 2);
        Check.due("the row while the next is open", book.row(), "(0, 0) at 0: 0.0=1<0; [3, 1, 0, 1]");
        book.close();
        Check.due("the row behind close()", book.row(),
            "(0, 0) at 0: 0.0=1<0; (0, 1) at 4: 0.0=2<1; [3, 1, 0, 1, 3, 1, 0, 2]");
    }

    /** Terms: "in order": the row's moments are as they were opened, each where the one before ends. */
    private static void rowIsInOrder() {
        Book book = Book.of(1).with(0, 0, 0, 0, 1).with(0, 64, 0, 0, 2).with(1, 0, 0, 0, 3).with(65, 300, 0, 0, 4);
        book.close();
        Check.due("the row", book.row(), "(0, 0) at 0: 0.0=1<0; (0, 64) at 4: 0.0=2<1; (1, 0) at 9: 0.0=3<2; "
            + "(65, 300) at 14: 0.0=4<3; [3, 1, 0, 1, 129, 1, 1, 0, 2, 2, 0, 1, 0, 3, 128, 1, 172, 2, 1, 0, 4]");
    }

    /** Terms: "A COUNT is written in bytes of 7 bits, the lowest first; 128 more in each but the last; no byte more
     * than it needs." */
    private static void countsOfOneToNineBytes() {
        for (int bytes = 1; bytes <= 8; bytes++) {
            List<Integer> greatest = new ArrayList<>(List.of(2));
            List<Integer> next = new ArrayList<>(List.of(2));
            for (int k = 1; k < bytes; k++) {
                greatest.add(255);
                next.add(128);
            }
            greatest.add(127);
            next.addAll(List.of(128, 1));
            stepIsWrittenAs((1L << 7 * bytes) - 1, greatest);
            stepIsWrittenAs(1L << 7 * bytes, next);
        }
        stepIsWrittenAs(0, List.of(2, 0));
        stepIsWrittenAs(1, List.of(2, 1));
        stepIsWrittenAs(300, List.of(2, 172, 2));
        stepIsWrittenAs(MOST, List.of(2, 255, 255, 255, 255, 255, 255, 255, 255, 15));
    }

    private static void stepIsWrittenAs(long step, List<Integer> head) {
        Book book = Book.of(1).with(1, step, 0, 0, 1);
        book.close();
        List<Integer> due = new ArrayList<>(head);
        due.addAll(List.of(1, 0, 1));
        Check.due("the row of a moment (1, " + step + ")", book.bytes(), due);
    }

    /** Terms: "if its time is that of the moment before it in the row (of the first one: 0), the count 2 d + 1, d being
     * its step less the other's step (of the first one: its step and 1; for the first one the other's step is -1)". */
    private static void firstMomentAtTimeZero() {
        for (long step : new long[] {0, 1, 62, 63, 64, MOST - 1, MOST}) {
            rowIs("the row of a first moment (0, " + step + ")", Book.of(1).with(0, step, 0, 0, 1),
                2 * (step + 1) + 1, 1, 0, 1);
        }
    }

    /** Terms: "otherwise the count 2 t, t being its time less the other's, and the count of its step", of the first. */
    private static void firstMomentAtAnotherTime() {
        for (long time : new long[] {1, 2, 63, 64, MOST - 1, MOST}) {
            for (long step : new long[] {0, 1, MOST}) {
                rowIs("the row of a first moment (" + time + ", " + step + ")", Book.of(1).with(time, step, 0, 0, 1),
                    2 * time, step, 1, 0, 1);
            }
        }
    }

    /** Terms: "if its time is that of the moment before it in the row [..], the count 2 d + 1, d being its step less
     * the other's step", of a later moment. */
    private static void momentOfTheSameTime() {
        long[][] steps = {{0, 1}, {0, 2}, {7, 8}, {0, 63}, {0, 64}, {0, MOST}, {MOST - 1, MOST}};
        for (long[] one : steps) {
            rowIs("the row of (9, " + one[0] + "), (9, " + one[1] + ")",
                Book.of(1).with(9, one[0], 0, 0, 1).with(9, one[1], 0, 0, 2),
                18, one[0], 1, 0, 1, 2 * (one[1] - one[0]) + 1, 1, 0, 2);
        }
    }

    /** Terms: "otherwise the count 2 t, t being its time less the other's, and the count of its step", of a later
     * moment. */
    private static void momentOfAnotherTime() {
        long[][] moments = {{0, 1, 0}, {0, 1, 5}, {0, 1, 6}, {8, 9, 0}, {0, 63, 0}, {0, 64, 0}, {0, MOST, 0},
            {0, MOST, MOST}, {MOST - 1, MOST, MOST}};
        for (long[] one : moments) {
            Book book = Book.of(1).with(0, 0, 0, 0, 1).with(one[0], 5, 0, 0, 2).with(one[1], one[2], 0, 0, 3);
            long head = one[0] == 0 ? 11 : 2 * one[0];
            book.close();
            List<Integer> due = counts(3, 1, 0, 1, head);
            due.addAll(one[0] == 0 ? List.of() : List.of(5));
            due.addAll(counts(1, 0, 2, 2 * (one[1] - one[0]), one[2], 1, 0, 3));
            Check.due("the row of (" + one[0] + ", 5), (" + one[1] + ", " + one[2] + ")", book.bytes(), due);
        }
    }

    /** Terms: "that of the moment before it in the row": a moment without changes is not there. */
    private static void toldFromTheMomentBeforeInTheRow() {
        Book first = Book.of(1);
        first.open(0, 3);
        first.open(2, 0);
        rowIs("the first in the row behind (0, 3) and (2, 0)", first.with(2, 1, 0, 0, 1), 4, 1, 1, 0, 1);

        Book step = Book.of(1).with(4, 4, 0, 0, 1);
        step.open(4, 6);
        rowIs("(4, 9) behind (4, 4) and (4, 6)", step.with(4, 9, 0, 0, 2), 8, 4, 1, 0, 1, 11, 1, 0, 2);

        Book time = Book.of(1).with(4, 4, 0, 0, 1);
        time.open(6, 0);
        rowIs("(6, 1) behind (4, 4) and (6, 0)", time.with(6, 1, 0, 0, 2), 8, 4, 1, 0, 1, 4, 1, 1, 0, 2);
    }

    /** Terms: "Then how many changes it has, as a count". */
    private static void howManyChanges() {
        for (int changes : new int[] {1, 2, 64, 127, 128, 129, 400}) {
            Book book = Book.ofMany(7, 64);
            book.open(0, 0);
            for (int c = 0; c < changes; c++) {
                book.change(c / 64, c % 64, 1);
            }
            book.close();
            List<Integer> due = counts(changes, 0, 1);
            for (int i = 0; i < due.size(); i++) {
                Check.due("byte " + (i + 1) + " of a moment of " + changes + " changes", book.byteAt(i + 1),
                    due.get(i));
            }
        }
    }

    /** Terms: "then each change, by wires and elements in rising order". */
    private static void changesInRisingOrder() {
        Book book = Book.of(2, 3, 1);
        book.open(0, 0);
        int[][] made = {{2, 0}, {1, 2}, {0, 1}, {1, 0}, {1, 1}, {0, 0}};
        for (int[] one : made) {
            book.change(one[0], one[1], 4);
        }
        book.close();
        Check.due("the row", book.row(), "(0, 0) at 0: 0.0=4<0 0.1=4<0 1.0=4<0 1.1=4<0 1.2=4<0 2.0=4<0; "
            + "[3, 6, 0, 4, 0, 20, 1, 4, 0, 20, 0, 36, 1, 4]");
    }

    /** Terms: "how many wires further its wire is than that of the change before it in this moment (of the first one:
     * than wire 0), as a count". */
    private static void howManyWiresFurther() {
        int[][] pairs = {{0, 0}, {0, 1}, {0, 127}, {0, 128}, {0, 199}, {1, 128}, {1, 129}, {127, 127}, {128, 199},
            {199, 199}};
        for (int[] one : pairs) {
            Book book = Book.ofMany(200, 2).with(0, 0, one[0], 0, 3);
            book.change(one[1], 1, 5);
            rowIs("the row of changes of the wires " + one[0] + " and " + one[1], book,
                3, 2, one[0], 3, one[1] - one[0], 21);
        }
        rowIs("each moment tells its wires from wire 0", Book.of(1, 1).with(0, 0, 1, 0, 1).with(0, 1, 1, 0, 2),
            3, 1, 1, 1, 3, 1, 1, 2);
    }

    /** Terms: "and the count of 16 times its element and its value". */
    private static void elementAndValue() {
        int[][] places = {{0, 1}, {0, 8}, {1, 1}, {7, 8}, {8, 1}, {62, 8}, {63, 1}, {63, 8}};
        for (int[] one : places) {
            rowIs("the row of element " + one[0] + " and value " + one[1], Book.of(64).with(0, 0, 0, one[0], one[1]),
                3, 1, 0, 16 * one[0] + one[1]);
        }
        for (int element : new int[] {0, 7, 8, 63}) {
            rowIs("the row of element " + element + " and value 0",
                Book.of(64).with(0, 0, 0, element, 8).with(0, 1, 0, element, 0),
                3, 1, 0, 16 * element + 8, 3, 1, 0, 16 * element);
        }
    }

    /** Terms: "At most 200 wires." */
    private static void mostWires() {
        Check.taken("the 200th wire", () -> Book.ofMany(199, 1), x -> x.wire(1));
        Check.refused("the 201st wire", () -> Book.ofMany(200, 1), Check.STATE, x -> x.wire(1));
    }

    /** An open moment with changes, one before it in the row, and a row's bytes on the tape. */
    private static Book busy() {
        return Book.of(2, 64).with(5, 4, 1, 63, 8).with(5, 5, 0, 1, 7).tape(3, 1, 0, 1);
    }

    /** Terms: "A call that throws changes nothing". */
    private static void refusedCallChangesNothing() {
        Check.refused("wire(0)", TermsTest::busy, Check.ARGUMENT, x -> x.wire(0));
        Check.refused("wire(1)", TermsTest::busy, Check.STATE, x -> x.wire(1));
        Check.refused("width(2)", TermsTest::busy, Check.INDEX, x -> x.width(2));
        Check.refused("open(-1, 0)", TermsTest::busy, Check.ARGUMENT, x -> x.open(-1, 0));
        Check.refused("open(5, 5)", TermsTest::busy, Check.ARGUMENT, x -> x.open(5, 5));
        Check.refused("change(2, 0, 1)", TermsTest::busy, Check.INDEX, x -> x.change(2, 0, 1));
        Check.refused("change(0, 0, 9)", TermsTest::busy, Check.ARGUMENT, x -> x.change(0, 0, 9));
        Check.refused("change(0, 0, 1) of no moment", () -> Book.of(1).tape(3, 1, 0, 1), Check.STATE,
            x -> x.change(0, 0, 1));
        Check.refused("moment(1, 0)", TermsTest::busy, Check.INDEX, x -> x.moment(1, 0));
        Check.refused("moment(0, 4)", TermsTest::busy, Check.ARGUMENT, x -> x.moment(0, 4));
        Check.refused("changed(0, 1, 0)", TermsTest::busy, Check.INDEX, x -> x.changed(0, 1, 0));
        Check.refused("changed(0, 0, 4)", TermsTest::busy, Check.ARGUMENT, x -> x.changed(0, 0, 4));
        Check.refused("at(0, 0, 0, 2)", TermsTest::busy, Check.INDEX, x -> x.at(0, 0, 0, 2));
        Check.refused("next(2, 0)", TermsTest::busy, Check.INDEX, x -> x.next(2, 0));
        Check.refused("next(0, -1)", TermsTest::busy, Check.ARGUMENT, x -> x.next(0, -1));
        Check.refused("byteAt(6)", TermsTest::busy, Check.INDEX, x -> x.byteAt(6));
        Check.refused("end(5)", TermsTest::busy, Check.ARGUMENT, x -> x.end(5));
    }

    /** Terms: "where several exceptions that a call names fit, the one named first is thrown". */
    private static void exceptionNamedFirst() {
        Check.refused("a wire of no width among 200", () -> Book.ofMany(200, 1), Check.ARGUMENT, x -> x.wire(0));
        Check.refused("a wire of no width behind a moment", TermsTest::busy, Check.ARGUMENT, x -> x.wire(65));
        Check.refused("no wire, no value, no moment", () -> Book.of(1), Check.INDEX, x -> x.change(1, 0, 9));
        Check.refused("no element, no value, no moment", () -> Book.of(1), Check.INDEX, x -> x.change(0, 1, -1));
        Check.refused("no element, no moment", () -> Book.of(1), Check.INDEX, x -> x.change(0, 1, 1));
        Check.refused("no element, no value", TermsTest::busy, Check.INDEX, x -> x.change(0, 2, 9));
        Check.refused("no value, no moment", () -> Book.of(1), Check.ARGUMENT, x -> x.change(0, 0, 9));
        Check.refused("no moment 1, no what", TermsTest::busy, Check.INDEX, x -> x.moment(1, 4));
        Check.refused("no change of moment 1, no what", TermsTest::busy, Check.INDEX, x -> x.changed(1, 0, 4));
        Check.refused("no change 1, no what", TermsTest::busy, Check.INDEX, x -> x.changed(0, 1, 4));
        Check.refused("no wire 2, m below 0", TermsTest::busy, Check.INDEX, x -> x.next(2, -1));
    }
}
