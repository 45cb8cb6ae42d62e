import java.util.function.Consumer;
import java.util.function.Supplier;

/** What the tests share: answers compared, exceptions awaited, and all that a book tells. */
final class Check {
    static final Class<IllegalArgumentException> ARGUMENT = IllegalArgumentException.class;
    static final Class<IllegalStateException> STATE = IllegalStateException.class;
    static final Class<IndexOutOfBoundsException> INDEX = IndexOutOfBoundsException.class;
    /** The greatest time and step. */
    static final long MOST = (1L << 60) - 1;
    /** Numbers that lie far outside of whatever an int tells. */
    static final int[] FAR = {Integer.MIN_VALUE, Integer.MIN_VALUE + 1, Integer.MAX_VALUE};

    /** Moments in rising order: the first of them that a book opens tells its latest one. */
    private static final long[][] PROBES = {{0, 0}, {0, 1}, {0, 5}, {0, 6}, {1, 0}, {1, 1}, {5, 4}, {5, 5}, {5, 6},
        {6, 0}, {7, 7}, {7, 8}, {10, 0}, {10, 1}, {MOST, 0}, {MOST, MOST - 1}, {MOST, MOST}};

    private static int wrong = 0;

    private Check() {
    }

    interface Call {
        Object run();
    }

    static void due(String what, Object got, Object want) {
        if (!got.equals(want)) {
            wrong++;
            System.out.println(what + " answered " + brief(got) + ", due is " + brief(want));
        }
    }

    private static String brief(Object answer) {
        String text = answer.toString();
        return text.length() > 400 ? text.substring(0, 400) + " .." : text;
    }

    /**
     * The call throws just this exception, and the book tells afterwards what a twin tells,
     * that was made alike and never called so.
     */
    static void refused(String what, Supplier<Book> made, Class<? extends RuntimeException> want,
            Consumer<Book> call) {
        Book book = made.get();
        due(what + " throws", answer(() -> done(book, call)), want.getName());
        due(what + " throws, and what the book tells then", told(book), told(made.get()));
    }

    /** The call does not throw. */
    static void taken(String what, Supplier<Book> made, Consumer<Book> call) {
        Book book = made.get();
        due(what, answer(() -> done(book, call)), "done");
    }

    private static String done(Book book, Consumer<Book> call) {
        call.accept(book);
        return "done";
    }

    /** What a call answers, or the name of what it throws. */
    static String answer(Call call) {
        try {
            return call.run().toString();
        } catch (RuntimeException e) {
            return thrown(e);
        }
    }

    /** The exception's name; told otherwise when not the class, but the machine or the library threw it. */
    static String thrown(RuntimeException e) {
        StackTraceElement[] calls = e.getStackTrace();
        boolean own = calls.length > 0 && calls[0].getClassName().startsWith("TraceBook");
        return own ? e.getClass().getName() : e + " at " + (calls.length > 0 ? calls[0] : "no place");
    }

    /** All that a book tells, also of its open moment, its latest one and its tape; the book is used up then. */
    static String told(Book book) {
        StringBuilder text = new StringBuilder("wires");
        int wires = book.wires();
        for (int w = 0; w < wires; w++) {
            text.append(' ').append(book.width(w));
        }
        text.append("; row ").append(book.row());
        text.append("; close ").append(answer(book::close)).append("; row ").append(book.row());
        text.append("; wire ").append(answer(() -> book.wire(1)));
        text.append("; opens ").append(firstOpened(book)).append(", close ").append(answer(book::close));
        text.append("; tape ").append(tapeLength(book));
        return text.append(", load ").append(book.load()).append("; row ").append(book.row()).toString();
    }

    /** How long the tape is, which stays as it is. */
    private static String tapeLength(Book book) {
        int length;
        try {
            length = book.feed(0) - 4;
        } catch (IllegalStateException e) {
            return "full";
        }
        book.end(length);
        return Integer.toString(length);
    }

    private static String firstOpened(Book book) {
        for (long[] probe : PROBES) {
            if (answer(() -> done(book, x -> x.open(probe[0], probe[1]))).equals("done")) {
                return probe[0] + ", " + probe[1];
            }
        }
        return "none";
    }

    /** To be called last: tells the outcome, and ends the program with 1 when an answer was wrong. */
    static void finish() {
        System.out.println(wrong == 0 ? "all answers are as due" : wrong + " answers are not as due");
        if (wrong != 0) {
            System.exit(1);
        }
    }
}
