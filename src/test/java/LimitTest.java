/** The limit of 60000 bytes, of the row and of the tape; it takes more calls than the document's 512. */
public final class LimitTest {
    private static final int MOST_BYTES = 60000;

    public static void main(String[] args) {
        tape();
        tapeOfAnyLength();
        row();
        rowByOneByte();
        Check.finish();
    }

    /** A tape of moments of four bytes each: (0,0), (0,1), .. with the values 1 and 2 in turn. */
    private static TraceBook fed(int moments) {
        TraceBook book = Check.book(64);
        for (int m = 0; m < moments; m++) {
            Check.due("feed", book.feed(m % 2 == 0 ? 0x03010001 : 0x03010002), 4 * m + 4);
        }
        return book;
    }

    private static void tape() {
        TraceBook book = fed(MOST_BYTES / 4);
        Check.refused("a full tape's feed", book, IllegalStateException.class, () -> book.feed(0));
        book.end(MOST_BYTES - 1);
        Check.refused("the feed of a byte too many", book, IllegalStateException.class, () -> book.feed(0));
        book.end(MOST_BYTES - 4);
        Check.due("the feed that fits", book.feed(0x03010002), MOST_BYTES);
        Check.due("load of a full tape", book.load(), -1);
        Check.due("moments of a full tape", book.moments(), MOST_BYTES / 4);
        Check.due("size of a full tape", book.size(), MOST_BYTES);
        Check.due("the last moment's step", book.moment(MOST_BYTES / 4 - 1, 1), MOST_BYTES / 4 - 1L);
    }

    private static void tapeOfAnyLength() {
        TraceBook book = Check.book(64);
        for (int m = 0; m < MOST_BYTES / 4; m++) {
            book.feed(0);
        }
        for (int less = 1; less < 4; less++) {
            book.end(MOST_BYTES - less);
            Check.refused("feed of a tape with room for " + less, book, IllegalStateException.class,
                () -> book.feed(0));
        }
    }

    private static void row() {
        TraceBook book = fed(MOST_BYTES / 4);
        book.load();
        book.open(0, 20000);
        book.open(1, 0);
        Check.due("a change of a full row", book.change(0, 5, 1), true);
        Check.refused("close of a full row", book, IllegalStateException.class, book::close);
        Check.refused("open of a full row", book, IllegalStateException.class, () -> book.open(1, 1));
        Check.refused("open at the moment that stays open", book, IllegalArgumentException.class,
            () -> book.open(1, 0));
        Check.due("the moment stays open, its change too", book.change(0, 5, 1), false);
        Check.due("the values behind the row stay", book.at(1, 0, 0, 5), 0);
        Check.due("the change taken back", book.change(0, 5, 0), true);
        Check.due("close without changes", book.close(), 0);
        book.open(1, 1);
        book.change(0, 5, 1);
        Check.due("load of an empty tape", book.load(), -1);
        Check.due("the row then", book.size(), 0);
    }

    private static void rowByOneByte() {
        int moments = MOST_BYTES / 4 - 1;
        TraceBook book = fed(moments);
        book.load();
        book.open(0, moments - 1 + 64);
        Check.due("another value than the last moment's", book.change(0, 0, 2), true);
        Check.refused("a row of 60001 bytes by close", book, IllegalStateException.class, book::close);
        Check.refused("a row of 60001 bytes by open", book, IllegalStateException.class, () -> book.open(1, 1));

        TraceBook fits = fed(moments);
        fits.load();
        fits.open(0, moments - 1 + 63);
        fits.change(0, 0, 2);
        fits.open(0, moments - 1 + 64);
        Check.due("a row of 60000 bytes", fits.size(), MOST_BYTES);
        Check.due("its moments", fits.moments(), moments + 1);
        Check.due("the place of its last", fits.moment(moments, 3), MOST_BYTES - 4L);
    }
}
