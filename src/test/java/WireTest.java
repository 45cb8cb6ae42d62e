/** Promises 1 to 4, sentence by sentence: the new object, wire, wires, width. */
public final class WireTest {
    public static void main(String[] args) {
        noWiresAtFirst();
        noMomentsAtFirst();
        emptyRowAtFirst();
        noTapeAtFirst();
        wireAnswersItsNumber();
        wireRefusesWidths();
        wireRefusesTheTwoHundredFirst();
        wireRefusesBehindAMoment();
        wireBehindMomentsThatAreNone();
        wireRefusesTheWidthFirst();
        wiresAreCounted();
        widthOfEachWire();
        widthRefusesNoWires();
        Check.finish();
    }

    /** Promise 1: "No wires". */
    private static void noWiresAtFirst() {
        Check.due("wires of a new book", Book.of().wires(), 0);
        Check.refused("the width of a new book's wire 0", Book::of, Check.INDEX, x -> x.width(0));
        Check.refused("at of a new book's wire 0", Book::of, Check.INDEX, x -> x.at(0, 0, 0, 0));
        Check.refused("next of a new book's wire 0", Book::of, Check.INDEX, x -> x.next(0, 0));
        Check.refused("a change of a new book's wire 0", Book::of, Check.INDEX, x -> x.change(0, 0, 1));
        Check.due("a new book's first wire", Book.of().wire(1), 0);
    }

    /** Promise 1: "no moments". */
    private static void noMomentsAtFirst() {
        Check.due("moments of a new book", Book.of().moments(), 0);
        Check.refused("a new book's moment 0", Book::of, Check.INDEX, x -> x.moment(0, 0));
        Check.refused("a change of a new book's moment 0", Book::of, Check.INDEX, x -> x.changed(0, 0, 0));
        Check.due("close of a new book", Book.of().close(), TraceBook.NONE);
        Check.due("NONE", TraceBook.NONE, -1);
        Check.taken("the least moment of a new book", Book::of, x -> x.open(0, 0));
        Check.due("a value before any moment", Book.of(1).at(Check.MOST, Check.MOST, 0, 0), 0);
        Check.due("next before any moment", Book.of(1).next(0, 0), TraceBook.NONE);
    }

    /** Promise 1: "an empty row". */
    private static void emptyRowAtFirst() {
        Check.due("size of a new book", Book.of().size(), 0);
        Check.refused("a new book's byte 0", Book::of, Check.INDEX, x -> x.byteAt(0));
    }

    /** Promise 1, and promise 15, "how many it has": nothing is on a new object's tape. */
    private static void noTapeAtFirst() {
        Check.due("the first feed of a new book", Book.of().feed(0), 4);
        Check.refused("end(1) of a new book", Book::of, Check.ARGUMENT, x -> x.end(1));
        Check.taken("end(0) of a new book", Book::of, x -> x.end(0));
        Check.due("load of a new book", Book.of().load(), TraceBook.NONE);
    }

    /** Promise 2: "A wire more: its number." The first is 0, the last 199. */
    private static void wireAnswersItsNumber() {
        Book book = Book.of();
        for (int w = 0; w < 200; w++) {
            Check.due("the number of wire " + w, book.wire(w % 64 + 1), w);
        }
        book.open(0, 0);
        Check.due("a change of wire 0", book.change(0, 0, 1), true);
        Check.due("a change of wire 199", book.change(199, 7, 8), true);
        book.close();
        Check.due("the row", book.row(), "(0, 0) at 0: 0.0=1<0 199.7=8<0; [3, 2, 0, 1, 199, 1, 120]");
    }

    /** Promise 2: "IllegalArgumentException when the width is not 1 .. 64". */
    private static void wireRefusesWidths() {
        for (int width : new int[] {1, 2, 63, 64}) {
            Book book = Book.of();
            Check.due("wire(" + width + ")", book.wire(width), 0);
            Check.due("the width behind wire(" + width + ")", book.width(0), width);
        }
        for (int width : new int[] {-64, -1, 0, 65, 66, 128, 256, 65537}) {
            Check.refused("wire(" + width + ")", Book::of, Check.ARGUMENT, x -> x.wire(width));
            Check.refused("wire(" + width + ") behind another", () -> Book.of(3), Check.ARGUMENT, x -> x.wire(width));
        }
        for (int width : Check.FAR) {
            Check.refused("wire(" + width + ")", Book::of, Check.ARGUMENT, x -> x.wire(width));
        }
    }

    /** Promise 2: "IllegalStateException when there are 200". */
    private static void wireRefusesTheTwoHundredFirst() {
        Check.due("the 199th wire", Book.ofMany(198, 64).wire(64), 198);
        Check.due("the 200th wire", Book.ofMany(199, 64).wire(64), 199);
        Check.refused("the 201st wire of width 1", () -> Book.ofMany(200, 64), Check.STATE, x -> x.wire(1));
        Check.refused("the 201st wire of width 64", () -> Book.ofMany(200, 1), Check.STATE, x -> x.wire(64));
        Book full = Book.ofMany(200, 1);
        full.load();
        Check.due("the 201st wire behind an empty load", Check.answer(() -> full.wire(1)), Check.STATE.getName());
    }

    private static Book closed(int... widths) {
        Book book = Book.of(widths);
        book.open(0, 0);
        book.close();
        return book;
    }

    private static Book loaded() {
        Book book = Book.of(1).tape(3, 1, 0, 1);
        book.load();
        return book;
    }

    /** Promise 2: "IllegalStateException when [..] a moment was opened". */
    private static void wireRefusesBehindAMoment() {
        Check.refused("a wire while the first moment is open", () -> Book.of(1).with(0, 0, 0, 0, 1), Check.STATE,
            x -> x.wire(1));
        Check.refused("a wire behind a closed moment without changes", () -> closed(1), Check.STATE, x -> x.wire(1));
        Check.refused("the first wire behind a moment of no wires", () -> closed(), Check.STATE, x -> x.wire(1));
        Check.refused("a wire behind load of a row", WireTest::loaded, Check.STATE, x -> x.wire(1));
    }

    /** Promise 2, "a moment was opened": none was behind a refused open(), nor behind load() of an empty row. */
    private static void wireBehindMomentsThatAreNone() {
        Book refused = Book.of(1);
        Check.due("open(-1, 0)", Check.answer(() -> {
            refused.open(-1, 0);
            return "done";
        }), Check.ARGUMENT.getName());
        Check.due("a wire behind a refused moment", refused.wire(5), 1);

        Book emptied = Book.of(1).with(0, 0, 0, 0, 1);
        emptied.close();
        Check.due("load of an empty tape", emptied.load(), TraceBook.NONE);
        Check.due("a wire behind load of an empty row", emptied.wire(5), 1);
        Check.due("its width", emptied.width(1), 5);

        Book faulty = Book.of(1).tape(0);
        Check.due("load of a bad tape", faulty.load(), 0);
        Check.due("a wire behind load of a bad tape", faulty.wire(5), 1);
    }

    /** Promise 2, of its two exceptions: the one named first. */
    private static void wireRefusesTheWidthFirst() {
        Check.refused("wire(0) among 200", () -> Book.ofMany(200, 1), Check.ARGUMENT, x -> x.wire(0));
        Check.refused("wire(65) among 200", () -> Book.ofMany(200, 1), Check.ARGUMENT, x -> x.wire(65));
        Check.refused("wire(0) behind a moment", () -> closed(1), Check.ARGUMENT, x -> x.wire(0));
        Check.refused("wire(65) behind a moment", () -> closed(1), Check.ARGUMENT, x -> x.wire(65));
    }

    /** Promise 3: "How many wires there are." */
    private static void wiresAreCounted() {
        for (int wires : new int[] {0, 1, 2, 199, 200}) {
            Check.due("wires() of " + wires, Book.ofMany(wires, 1).wires(), wires);
        }
        Book refused = Book.of(5);
        Check.answer(() -> refused.wire(0));
        Check.due("wires() behind a refused one", refused.wires(), 1);
        Check.due("wires() behind a moment", closed(1, 2).wires(), 2);
        Check.due("wires() behind load of a row", loaded().wires(), 1);
        Book emptied = Book.of(1, 2, 3);
        emptied.load();
        Check.due("wires() behind load of an empty row", emptied.wires(), 3);
    }

    /** Promise 4: "The width of a wire." */
    private static void widthOfEachWire() {
        Book book = Book.of(1, 64, 17);
        Check.due("width(0)", book.width(0), 1);
        Check.due("width(1)", book.width(1), 64);
        Check.due("width(2)", book.width(2), 17);
        Book many = Book.ofMany(199, 1);
        many.wire(64);
        Check.due("width(198)", many.width(198), 1);
        Check.due("width(199)", many.width(199), 64);
        Check.due("width(0) behind load", loaded().width(0), 1);
    }

    /** Promise 4: "IndexOutOfBoundsException when there is none such." */
    private static void widthRefusesNoWires() {
        for (int wire : new int[] {-200, -1, 2, 3, 63, 64, 199, 200, 256}) {
            Check.refused("width(" + wire + ") of two wires", () -> Book.of(1, 64), Check.INDEX, x -> x.width(wire));
        }
        for (int wire : Check.FAR) {
            Check.refused("width(" + wire + ")", () -> Book.of(1), Check.INDEX, x -> x.width(wire));
        }
        for (int wire : new int[] {-1, 200, 201}) {
            Check.refused("width(" + wire + ") of 200 wires", () -> Book.ofMany(200, 1), Check.INDEX,
                x -> x.width(wire));
        }
    }
}
