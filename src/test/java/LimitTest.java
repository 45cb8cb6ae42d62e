/**
 * The limit of 60000 bytes, of the row and of the tape. 512 calls can't reach it, so the document promises nothing
 * here; the class keeps it all the same.
 */
public final class LimitTest {
    private static final int MOST_BYTES = 60000;
    private static final int MOST_MOMENTS = MOST_BYTES / 4;

    public static void main(String[] args) {
        fullTapeIsLoaded();
        feedRefusesMoreThanTheTapeTakes();
        closeRefusesARowTooLong();
        openRefusesARowTooLong();
        openRefusesTheArgumentFirst();
        momentStaysOpenWhenTheRowIsFull();
        rowOfJustTheGreatestLength();
        Check.finish();
    }

    /** A tape of moments of four bytes each: (0,0), (0,1), .. with the values 1 and 2 in turn. */
    private static Book fed(int moments) {
        Book book = Book.withoutEnd(64);
        for (int m = 0; m < moments; m++) {
            book.feed(m % 2 == 0 ? 0x03010001 : 0x03010002);
        }
        return book;
    }

    private static Book loaded(int moments) {
        Book book = fed(moments);
        book.load();
        return book;
    }

    /** A full row, and an open moment with a change. */
    private static Book full() {
        return loaded(MOST_MOMENTS).with(1, 0, 0, 5, 1);
    }

    /** A row with room for four bytes, and an open moment of four or of five. */
    private static Book nearlyFull(int further) {
        return loaded(MOST_MOMENTS - 1).with(0, MOST_MOMENTS - 2 + further, 0, 0, 2);
    }

    /** Promise 15: "how many it has", and promise 17, of a tape of 60000 bytes. */
    private static void fullTapeIsLoaded() {
        Book book = fed(MOST_MOMENTS - 1);
        Check.due("the feed that fills the tape", book.feed(0x03010002), MOST_BYTES);
        Check.due("load of a full tape", book.load(), TraceBook.NONE);
        Check.due("moments of a full tape", book.moments(), MOST_MOMENTS);
        Check.due("size of a full tape", book.size(), MOST_BYTES);
        Check.due("the last moment's step", book.moment(MOST_MOMENTS - 1, 1), MOST_MOMENTS - 1L);
    }

    /** Promise 15: "IllegalStateException when there would be more than 60000." */
    private static void feedRefusesMoreThanTheTapeTakes() {
        for (int less = 0; less < 4; less++) {
            int length = MOST_BYTES - less;
            Check.refused("feed of a tape of " + length, () -> {
                Book book = fed(MOST_MOMENTS);
                book.end(length);
                return book;
            }, Check.STATE, x -> x.feed(0));
        }
        Book book = fed(MOST_MOMENTS);
        book.end(MOST_BYTES - 4);
        Check.due("feed of a tape with room for four", book.feed(0), MOST_BYTES);
    }

    /** Promise 7: "IllegalStateException when the row would have more than 60000 bytes." */
    private static void closeRefusesARowTooLong() {
        Check.refused("close of a full row", LimitTest::full, Check.STATE, Book::close);
        Check.refused("close of a row of 60001 bytes", () -> nearlyFull(64), Check.STATE, Book::close);
    }

    /** Promise 5: "IllegalStateException when the row would have more than 60000 bytes." */
    private static void openRefusesARowTooLong() {
        Check.refused("open of a full row", LimitTest::full, Check.STATE, x -> x.open(1, 1));
        Check.refused("open of a row of 60001 bytes", () -> nearlyFull(64), Check.STATE, x -> x.open(1, 1));
    }

    /** Promise 5, of its two exceptions: the one named first. */
    private static void openRefusesTheArgumentFirst() {
        Check.refused("open(1, 0) again", LimitTest::full, Check.ARGUMENT, x -> x.open(1, 0));
        Check.refused("open(1, -1)", LimitTest::full, Check.ARGUMENT, x -> x.open(1, -1));
    }

    /** Promises 5 and 7, and Terms, "A call that throws changes nothing". */
    private static void momentStaysOpenWhenTheRowIsFull() {
        Book book = full();
        Check.due("close of a full row", Check.answer(book::close), Check.STATE.getName());
        Check.due("the moment stays open, its change too", book.change(0, 5, 1), false);
        Check.due("the value behind the row", book.at(1, 0, 0, 5), 0);
        Check.due("the change taken back", book.change(0, 5, 0), true);
        Check.due("close without changes", book.close(), 0);
        book.with(1, 1, 0, 5, 1);
        Check.due("load of an empty tape", book.load(), TraceBook.NONE);
        Check.due("the row then", book.size(), 0);
    }

    /** Terms: "THE ROW has at most 60000 bytes." */
    private static void rowOfJustTheGreatestLength() {
        Book closed = nearlyFull(63);
        Check.due("close of a row of 60000 bytes", closed.close(), 1);
        Check.due("its size", closed.size(), MOST_BYTES);
        Book opened = nearlyFull(63);
        opened.open(1, 0);
        Check.due("a row of 60000 bytes by open", opened.size(), MOST_BYTES);
        Check.due("its moments", opened.moments(), MOST_MOMENTS);
        Check.due("the place of its last", opened.moment(MOST_MOMENTS - 1, 3), MOST_BYTES - 4L);
    }
}
