import java.util.List;

/** Promises 8 to 14, sentence by sentence: moments, moment, changed, at, next, size, byteAt. */
public final class AskTest {
    private static final long MOST = Check.MOST;

    public static void main(String[] args) {
        momentsAreCounted();
        momentTellsTimeStepChangesPlace();
        momentRefusesNoMoment();
        momentRefusesNoWhat();
        momentRefusesTheMomentFirst();
        changedTellsWireElementValues();
        changedRefusesNoMoment();
        changedRefusesNoChange();
        changedRefusesNoWhat();
        changedRefusesTheChangeFirst();
        atCountsMomentsThatAreNotLater();
        atTakesAnyTimeAndStep();
        atCountsMomentsOfTheRowAlone();
        atRefusesNoWire();
        atRefusesNoElement();
        nextFindsTheFirstMomentFromMOn();
        nextFindsNone();
        nextRefusesNoWire();
        nextRefusesMBelowZero();
        nextRefusesTheWireFirst();
        sizeCountsBytes();
        byteAtTellsEachByte();
        byteAtRefusesNoByte();
        manyWiresInOneMoment();
        Check.finish();
    }

    /** Three wires; the row's moments (0,0), (0,5), (10,0), (2^60-1, 2^60-1); (0,1) has no changes. */
    private static Book ordinary() {
        Book book = Book.of(1, 8, 64).with(0, 0, 1, 7, 2);
        book.change(0, 0, 3);
        book.open(0, 1);
        book.with(0, 5, 2, 63, 8);
        book.change(2, 0, 1);
        book.with(10, 0, 2, 0, 0);
        book.change(1, 7, 5);
        book.with(MOST, MOST, 0, 0, 8);
        book.close();
        return book;
    }

    /** One moment in the row, and one open with a change of another element. */
    private static Book oneAndOpen() {
        return Book.of(2, 3).with(5, 5, 0, 0, 4).with(7, 7, 1, 2, 1);
    }

    private static Book opened() {
        return Book.of(2, 3).with(5, 5, 0, 0, 4);
    }

    /** Promise 8: "How many moments the row has." */
    private static void momentsAreCounted() {
        Check.due("moments of no moment", Book.of(1).moments(), 0);
        Check.due("moments while the first is open", opened().moments(), 0);
        Check.due("moments while the second is open", oneAndOpen().moments(), 1);
        Check.due("moments of four with changes and one without", ordinary().moments(), 4);
        Book closed = oneAndOpen();
        closed.close();
        Check.due("moments when the second is closed", closed.moments(), 2);
        closed.tape(3, 1, 0, 1, 0).load();
        Check.due("moments behind load of a bad tape", closed.moments(), 2);
        closed.tape(3, 1, 0, 1).load();
        Check.due("moments behind load of a row", closed.moments(), 1);
        closed.load();
        Check.due("moments behind load of an empty row", closed.moments(), 0);
    }

    /** Promise 9: "what = 0 its time, 1 its step, 2 how many changes, 3 the place of its first byte in the row". */
    private static void momentTellsTimeStepChangesPlace() {
        Book book = ordinary();
        long[][] due = {{0, 0, 2, 0}, {0, 5, 2, 6}, {10, 0, 2, 13}, {MOST, MOST, 1, 20}};
        for (int m = 0; m < due.length; m++) {
            for (int what = 0; what < 4; what++) {
                Check.due("moment(" + m + ", " + what + ")", book.moment(m, what), due[m][what]);
            }
        }
    }

    /** Promise 9: "IndexOutOfBoundsException when there is none such". */
    private static void momentRefusesNoMoment() {
        for (int m : new int[] {-4, -1, 4, 5, 256}) {
            Check.refused("moment(" + m + ", 0) of four", AskTest::ordinary, Check.INDEX, x -> x.moment(m, 0));
        }
        for (int m : Check.FAR) {
            Check.refused("moment(" + m + ", 0)", AskTest::ordinary, Check.INDEX, x -> x.moment(m, 0));
        }
        Check.refused("moment(0, 0) of an empty row", () -> Book.of(1), Check.INDEX, x -> x.moment(0, 0));
        Check.refused("the first moment while it is open", AskTest::opened, Check.INDEX, x -> x.moment(0, 0));
        Check.refused("the second moment while it is open", AskTest::oneAndOpen, Check.INDEX, x -> x.moment(1, 0));
        Check.refused("a moment of no changes", () -> {
            Book book = Book.of(1);
            book.open(0, 0);
            book.close();
            return book;
        }, Check.INDEX, x -> x.moment(0, 0));
        Check.refused("a moment that load took away", () -> {
            Book book = oneAndOpen();
            book.close();
            book.tape(3, 1, 0, 1).load();
            return book;
        }, Check.INDEX, x -> x.moment(1, 0));
    }

    /** Promise 9: "IllegalArgumentException when what is none of these". */
    private static void momentRefusesNoWhat() {
        for (int what : new int[] {-4, -1, 4, 5, 256}) {
            Check.refused("moment(0, " + what + ")", AskTest::ordinary, Check.ARGUMENT, x -> x.moment(0, what));
            Check.refused("moment(3, " + what + ")", AskTest::ordinary, Check.ARGUMENT, x -> x.moment(3, what));
        }
        for (int what : Check.FAR) {
            Check.refused("moment(0, " + what + ")", AskTest::ordinary, Check.ARGUMENT, x -> x.moment(0, what));
        }
    }

    /** Promise 9, of its two exceptions: the one named first. */
    private static void momentRefusesTheMomentFirst() {
        Check.refused("moment(4, 4) of four", AskTest::ordinary, Check.INDEX, x -> x.moment(4, 4));
        Check.refused("moment(-1, -1)", AskTest::ordinary, Check.INDEX, x -> x.moment(-1, -1));
        Check.refused("moment(0, 4) of an empty row", () -> Book.of(1), Check.INDEX, x -> x.moment(0, 4));
    }

    /** Promise 10: "what = 0 the wire, 1 the element, 2 the value, 3 the value before". */
    private static void changedTellsWireElementValues() {
        Book book = ordinary();
        int[][][] due = {{{0, 0, 3, 0}, {1, 7, 2, 0}}, {{2, 0, 1, 0}, {2, 63, 8, 0}},
            {{1, 7, 5, 2}, {2, 0, 0, 1}}, {{0, 0, 8, 3}}};
        for (int m = 0; m < due.length; m++) {
            for (int c = 0; c < due[m].length; c++) {
                for (int what = 0; what < 4; what++) {
                    Check.due("changed(" + m + ", " + c + ", " + what + ")", book.changed(m, c, what),
                        due[m][c][what]);
                }
            }
        }
        Book ends = Book.ofMany(200, 64).with(0, 0, 199, 63, 8).with(0, 1, 199, 63, 0);
        ends.close();
        Check.due("the last wire and element, from 0 to 8 and back", ends.row(),
            "(0, 0) at 0: 199.63=8<0; (0, 1) at 6: 199.63=0<8; [3, 1, 199, 1, 248, 7, 3, 1, 199, 1, 240, 7]");
    }

    /** Promise 10: "IndexOutOfBoundsException when there is none such", of moments. */
    private static void changedRefusesNoMoment() {
        for (int m : new int[] {-4, -1, 4, 5, 256}) {
            Check.refused("changed(" + m + ", 0, 0) of four", AskTest::ordinary, Check.INDEX, x -> x.changed(m, 0, 0));
        }
        for (int m : Check.FAR) {
            Check.refused("changed(" + m + ", 0, 0)", AskTest::ordinary, Check.INDEX, x -> x.changed(m, 0, 0));
        }
        Check.refused("changed(0, 0, 0) of an empty row", () -> Book.of(1), Check.INDEX, x -> x.changed(0, 0, 0));
        Check.refused("a change of the open moment", AskTest::opened, Check.INDEX, x -> x.changed(0, 0, 0));
        Check.refused("a change of the second moment while it is open", AskTest::oneAndOpen, Check.INDEX,
            x -> x.changed(1, 0, 0));
    }

    /** Promise 10: "IndexOutOfBoundsException when there is none such", of changes: each moment has its own. */
    private static void changedRefusesNoChange() {
        int[][] none = {{0, -1}, {0, 2}, {1, 2}, {2, 2}, {3, 1}, {3, -1}, {0, 256}};
        for (int[] one : none) {
            Check.refused("changed(" + one[0] + ", " + one[1] + ", 0)", AskTest::ordinary, Check.INDEX,
                x -> x.changed(one[0], one[1], 0));
        }
        for (int c : Check.FAR) {
            Check.refused("changed(0, " + c + ", 0)", AskTest::ordinary, Check.INDEX, x -> x.changed(0, c, 0));
        }
    }

    /** Promise 10: "IllegalArgumentException when what is none of these". */
    private static void changedRefusesNoWhat() {
        for (int what : new int[] {-4, -1, 4, 5, 256}) {
            Check.refused("changed(0, 0, " + what + ")", AskTest::ordinary, Check.ARGUMENT,
                x -> x.changed(0, 0, what));
            Check.refused("changed(0, 1, " + what + ")", AskTest::ordinary, Check.ARGUMENT,
                x -> x.changed(0, 1, what));
        }
        for (int what : Check.FAR) {
            Check.refused("changed(3, 0, " + what + ")", AskTest::ordinary, Check.ARGUMENT,
                x -> x.changed(3, 0, what));
        }
    }

    /** Promise 10, of its two exceptions: the one named first. */
    private static void changedRefusesTheChangeFirst() {
        Check.refused("changed(4, 0, 4) of four", AskTest::ordinary, Check.INDEX, x -> x.changed(4, 0, 4));
        Check.refused("changed(-1, -1, -1)", AskTest::ordinary, Check.INDEX, x -> x.changed(-1, -1, -1));
        Check.refused("changed(0, 2, 4) of two", AskTest::ordinary, Check.INDEX, x -> x.changed(0, 2, 4));
        Check.refused("changed(0, -1, -1)", AskTest::ordinary, Check.INDEX, x -> x.changed(0, -1, -1));
        Check.refused("changed(0, 0, 4) of an empty row", () -> Book.of(1), Check.INDEX, x -> x.changed(0, 0, 4));
    }

    private static void at(Book book, long time, long step, int wire, int element, int due) {
        Check.due("at(" + time + ", " + step + ", " + wire + ", " + element + ")",
            book.at(time, step, wire, element), due);
    }

    /** Promise 11: "The value of an element behind all moments of the row that are not later than a time and step." */
    private static void atCountsMomentsThatAreNotLater() {
        Book book = ordinary();
        at(book, 0, 0, 0, 0, 3);
        at(book, 0, 4, 2, 63, 0);
        at(book, 0, 5, 2, 63, 8);
        at(book, 0, 6, 2, 63, 8);
        at(book, 9, MOST, 1, 7, 2);
        at(book, 10, 0, 1, 7, 5);
        at(book, 10, 1, 1, 7, 5);
        at(book, 11, 0, 1, 7, 5);
        at(book, 9, MOST, 2, 0, 1);
        at(book, 10, 0, 2, 0, 0);
        at(book, MOST, MOST - 1, 0, 0, 3);
        at(book, MOST, MOST, 0, 0, 8);
        at(book, MOST, MOST, 1, 0, 0);
        at(Book.of(1), MOST, MOST, 0, 0, 0);
        Book late = Book.of(1).with(5, 5, 0, 0, 7);
        late.close();
        at(late, 5, 4, 0, 0, 0);
        at(late, 4, MOST, 0, 0, 0);
        at(late, 0, 0, 0, 0, 0);
        at(late, 5, 5, 0, 0, 7);
        at(late, 6, 0, 0, 0, 7);
    }

    /** Promise 11 names no exception for a time or step: one outside of 0 .. 2^60 - 1 is before or behind as any. */
    private static void atTakesAnyTimeAndStep() {
        Book book = ordinary();
        at(book, 0, -1, 0, 0, 0);
        at(book, -1, 0, 0, 0, 0);
        at(book, -1, MOST, 0, 0, 0);
        at(book, 10, -1, 1, 7, 2);
        at(book, 10, Long.MIN_VALUE, 1, 7, 2);
        at(book, 9, Long.MAX_VALUE, 1, 7, 2);
        at(book, Long.MIN_VALUE, Long.MIN_VALUE, 0, 0, 0);
        at(book, Long.MIN_VALUE, Long.MAX_VALUE, 0, 0, 0);
        at(book, MOST, Long.MAX_VALUE, 0, 0, 8);
        at(book, MOST + 1, -1, 0, 0, 8);
        at(book, MOST + 1, Long.MIN_VALUE, 0, 0, 8);
        at(book, Long.MAX_VALUE, Long.MAX_VALUE, 0, 0, 8);
        at(book, Long.MAX_VALUE, Long.MIN_VALUE, 0, 0, 8);
    }

    /** Promise 11, "all moments of the row": the open one is not there. */
    private static void atCountsMomentsOfTheRowAlone() {
        Book book = oneAndOpen();
        at(book, 7, 7, 1, 2, 0);
        at(book, MOST, MOST, 1, 2, 0);
        at(book, MOST, MOST, 0, 0, 4);
        book.close();
        at(book, 7, 6, 1, 2, 0);
        at(book, 7, 7, 1, 2, 1);
    }

    /** Promise 11: "IndexOutOfBoundsException when there is no such wire". */
    private static void atRefusesNoWire() {
        for (int wire : new int[] {-1, 3, 4, 199, 200}) {
            Check.refused("at(0, 0, " + wire + ", 0) of three", AskTest::ordinary, Check.INDEX,
                x -> x.at(0, 0, wire, 0));
            Check.refused("at(-1, -1, " + wire + ", 0)", AskTest::ordinary, Check.INDEX, x -> x.at(-1, -1, wire, 0));
        }
        for (int wire : Check.FAR) {
            Check.refused("at(0, 0, " + wire + ", 0)", AskTest::ordinary, Check.INDEX, x -> x.at(0, 0, wire, 0));
        }
        Check.refused("at(0, 0, 200, 0) of 200", () -> Book.ofMany(200, 1), Check.INDEX, x -> x.at(0, 0, 200, 0));
        Check.due("at(0, 0, 199, 0) of 200", Book.ofMany(200, 1).at(0, 0, 199, 0), 0);
    }

    /** Promise 11: "IndexOutOfBoundsException when there is no such [..] element": each wire has its own width. */
    private static void atRefusesNoElement() {
        int[][] none = {{0, -1}, {0, 1}, {0, 63}, {1, -1}, {1, 8}, {2, -1}, {2, 64}, {2, 65}};
        for (int[] one : none) {
            Check.refused("at(0, 0, " + one[0] + ", " + one[1] + ")", AskTest::ordinary, Check.INDEX,
                x -> x.at(0, 0, one[0], one[1]));
        }
        for (int element : Check.FAR) {
            Check.refused("at(0, 0, 2, " + element + ")", AskTest::ordinary, Check.INDEX,
                x -> x.at(0, 0, 2, element));
        }
        Book book = ordinary();
        at(book, 0, 0, 0, 0, 3);
        at(book, 0, 0, 1, 7, 2);
        at(book, 0, 0, 2, 63, 0);
    }

    /** Promise 12: "The first moment of the row from moment m on (m from 0) in which a wire has a change". */
    private static void nextFindsTheFirstMomentFromMOn() {
        Book book = ordinary();
        int[][] due = {{0, 3, 3, 3}, {0, 2, 2}, {1, 1, 2}};
        for (int wire = 0; wire < due.length; wire++) {
            for (int m = 0; m < due[wire].length; m++) {
                Check.due("next(" + wire + ", " + m + ")", book.next(wire, m), due[wire][m]);
            }
        }
        Book between = Book.of(1, 1, 1).with(0, 0, 0, 0, 1);
        between.change(2, 0, 1);
        between.with(0, 1, 1, 0, 1).close();
        Check.due("a wire between two that change", between.next(1, 0), 1);
        Check.due("the last of several wires", between.next(2, 0), 0);
    }

    /** Promise 12: "NONE." */
    private static void nextFindsNone() {
        Book book = ordinary();
        Check.due("next(1, 3), behind its last change", book.next(1, 3), TraceBook.NONE);
        for (int wire = 0; wire < 3; wire++) {
            Check.due("next(" + wire + ", 4) of four", book.next(wire, 4), TraceBook.NONE);
            Check.due("next(" + wire + ", 5) of four", book.next(wire, 5), TraceBook.NONE);
            Check.due("next(" + wire + ", far)", book.next(wire, Integer.MAX_VALUE), TraceBook.NONE);
        }
        Check.due("next of an empty row", Book.of(1).next(0, 0), TraceBook.NONE);
        Check.due("next of the open moment's wire", oneAndOpen().next(1, 0), TraceBook.NONE);
        Check.due("next from the open moment on", oneAndOpen().next(1, 1), TraceBook.NONE);
        Book back = Book.of(1).with(0, 0, 0, 0, 1);
        back.change(0, 0, 0);
        back.close();
        Check.due("next of a change taken back", back.next(0, 0), TraceBook.NONE);
    }

    /** Promise 12: "IndexOutOfBoundsException when there is no such wire". */
    private static void nextRefusesNoWire() {
        for (int wire : new int[] {-1, 3, 4, 199, 200}) {
            Check.refused("next(" + wire + ", 0) of three", AskTest::ordinary, Check.INDEX, x -> x.next(wire, 0));
            Check.refused("next(" + wire + ", 4)", AskTest::ordinary, Check.INDEX, x -> x.next(wire, 4));
        }
        for (int wire : Check.FAR) {
            Check.refused("next(" + wire + ", 0)", AskTest::ordinary, Check.INDEX, x -> x.next(wire, 0));
        }
        Check.refused("next(200, 0) of 200", () -> Book.ofMany(200, 1), Check.INDEX, x -> x.next(200, 0));
        Check.due("next(199, 0) of 200", Book.ofMany(200, 1).next(199, 0), TraceBook.NONE);
    }

    /** Promise 12: "IllegalArgumentException when m is below 0". */
    private static void nextRefusesMBelowZero() {
        for (int m : new int[] {-1, -2, -256, Integer.MIN_VALUE}) {
            Check.refused("next(0, " + m + ")", AskTest::ordinary, Check.ARGUMENT, x -> x.next(0, m));
            Check.refused("next(0, " + m + ") of an empty row", () -> Book.of(1), Check.ARGUMENT,
                x -> x.next(0, m));
        }
        Check.due("next(0, 0)", ordinary().next(0, 0), 0);
    }

    /** Promise 12, of its two exceptions: the one named first. */
    private static void nextRefusesTheWireFirst() {
        Check.refused("next(3, -1) of three", AskTest::ordinary, Check.INDEX, x -> x.next(3, -1));
        Check.refused("next(-1, -1)", AskTest::ordinary, Check.INDEX, x -> x.next(-1, -1));
        Check.refused("next(0, -1) of no wires", () -> Book.of(), Check.INDEX, x -> x.next(0, -1));
    }

    /** Promise 13: "How many bytes the row has." */
    private static void sizeCountsBytes() {
        Check.due("size of an empty row", Book.of(1).size(), 0);
        Check.due("size while the first moment is open", opened().size(), 0);
        Book book = oneAndOpen();
        Check.due("size while the second moment is open", book.size(), 5);
        book.close();
        Check.due("size when it is closed", book.size(), 10);
        book.open(MOST, MOST);
        book.close();
        Check.due("size behind a moment without changes", book.size(), 10);
        book.feed(0x03010001);
        Check.due("size with a tape", book.size(), 10);
        book.feed(0);
        book.load();
        Check.due("size behind load of a bad tape", book.size(), 10);
        book.feed(0x03010001);
        book.load();
        Check.due("size behind load of a row", book.size(), 4);
        book.load();
        Check.due("size behind load of an empty row", book.size(), 0);
        Check.due("size of the ordinary row", ordinary().size(), 41);
    }

    /** Promise 14: "Byte i of the row." Each is 0 .. 255. */
    private static void byteAtTellsEachByte() {
        Book book = ordinary();
        int[] due = {3, 2, 0, 3, 1, 114, 11, 2, 2, 1, 0, 248, 7, 20, 0, 2, 1, 117, 1, 0,
            234, 255, 255, 255, 255, 255, 255, 255, 31, 255, 255, 255, 255, 255, 255, 255, 255, 15, 1, 0, 8};
        for (int i = 0; i < due.length; i++) {
            Check.due("byteAt(" + i + ")", book.byteAt(i), due[i]);
        }
        Book least = Book.of(1).with(0, 0, 0, 0, 1).with(0, 64, 0, 0, 2);
        least.close();
        Check.due("a byte of 129 among others", least.bytes(), List.of(3, 1, 0, 1, 129, 1, 1, 0, 2));
    }

    /** Promise 14: "IndexOutOfBoundsException when there is none such." */
    private static void byteAtRefusesNoByte() {
        for (int i : new int[] {-41, -1, 41, 42, 64, 256}) {
            Check.refused("byteAt(" + i + ") of 41", AskTest::ordinary, Check.INDEX, x -> x.byteAt(i));
        }
        for (int i : Check.FAR) {
            Check.refused("byteAt(" + i + ")", AskTest::ordinary, Check.INDEX, x -> x.byteAt(i));
        }
        Check.refused("byteAt(0) of an empty row", () -> Book.of(1), Check.INDEX, x -> x.byteAt(0));
        Check.refused("byteAt(0) while the first moment is open", AskTest::opened, Check.INDEX, x -> x.byteAt(0));
        Check.refused("byteAt(5) while the second moment is open", AskTest::oneAndOpen, Check.INDEX,
            x -> x.byteAt(5));
        Check.refused("a byte that load took away", () -> {
            Book book = oneAndOpen();
            book.close();
            book.tape(3, 1, 0, 1).load();
            return book;
        }, Check.INDEX, x -> x.byteAt(4));
        Check.refused("byteAt(0) of a tape that is not loaded", () -> Book.of(1).tape(3, 1, 0, 1), Check.INDEX,
            x -> x.byteAt(0));
    }

    /** Promises 9 to 14 with 200 wires that all change in one moment. */
    private static void manyWiresInOneMoment() {
        Book book = Book.ofMany(200, 4);
        book.open(0, 0);
        for (int wire = 199; wire >= 0; wire--) {
            book.change(wire, wire % 4, wire % 8 + 1);
        }
        Check.due("close", book.close(), 200);
        Check.due("how many changes", book.moment(0, 2), 200L);
        Check.due("size", book.size(), 403);
        for (int c : new int[] {0, 1, 126, 127, 128, 198, 199}) {
            Check.due("the wire of change " + c, book.changed(0, c, 0), c);
            Check.due("the element of change " + c, book.changed(0, c, 1), c % 4);
            Check.due("the value of change " + c, book.changed(0, c, 2), c % 8 + 1);
            Check.due("next of wire " + c, book.next(c, 0), 0);
            Check.due("at of wire " + c, book.at(0, 0, c, c % 4), c % 8 + 1);
            Check.due("at of the wire's next element", book.at(0, 0, c, (c + 1) % 4), 0);
        }
        Check.due("the first byte", book.byteAt(0), 3);
        Check.due("the count's first byte", book.byteAt(1), 200);
        Check.due("the count's second byte", book.byteAt(2), 1);
        Check.due("the last byte", book.byteAt(402), 16 * 3 + 8);
        Check.due("no change 200", Check.answer(() -> book.changed(0, 200, 0)), Check.INDEX.getName());
        Check.due("no byte 403", Check.answer(() -> book.byteAt(403)), Check.INDEX.getName());
    }
}
