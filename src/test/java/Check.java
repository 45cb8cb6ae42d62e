import java.util.ArrayList;
import java.util.List;

/** What the tests share: answers compared, exceptions awaited, and all that a book shows. */
final class Check {
    private static int wrong = 0;

    private Check() {
    }

    interface Call {
        void run();
    }

    static void due(String what, Object got, Object want) {
        if (!got.equals(want)) {
            wrong++;
            System.out.println(what + " answered " + brief(got) + ", due is " + brief(want));
        }
    }

    private static String brief(Object answer) {
        String text = answer.toString();
        return text.length() > 400 ? text.substring(0, 400) + " .." : text;
    }

    /** The call throws just this exception, and the book shows afterwards what it showed before. */
    static void refused(String what, TraceBook book, Class<? extends RuntimeException> want, Call call) {
        String before = shown(book);
        String got = "nothing";
        try {
            call.run();
        } catch (RuntimeException e) {
            got = thrown(e);
        }
        due(what + " throws", got, want.getName());
        due(what + " throws and changes nothing:", shown(book), before);
    }

    /** The exception's name; told otherwise when not the class, but the machine or the library threw it. */
    static String thrown(RuntimeException e) {
        StackTraceElement[] calls = e.getStackTrace();
        boolean own = calls.length > 0 && calls[0].getClassName().startsWith("TraceBook");
        return own ? e.getClass().getName() : e + " at " + (calls.length > 0 ? calls[0] : "no place");
    }

    /** All that the book's asking calls show. */
    static String shown(TraceBook book) {
        StringBuilder text = new StringBuilder("wires");
        for (int w = 0; w < book.wires(); w++) {
            text.append(' ').append(book.width(w));
        }
        for (int m = 0; m < book.moments(); m++) {
            text.append("; moment");
            for (int what = 0; what < 4; what++) {
                text.append(' ').append(book.moment(m, what));
            }
            for (int c = 0; c < book.moment(m, 2); c++) {
                text.append(" (");
                for (int what = 0; what < 4; what++) {
                    text.append(book.changed(m, c, what)).append(what < 3 ? " " : ")");
                }
            }
        }
        return text.append("; bytes ").append(bytes(book)).toString();
    }

    static List<Integer> bytes(TraceBook book) {
        List<Integer> all = new ArrayList<>();
        for (int i = 0; i < book.size(); i++) {
            all.add(book.byteAt(i));
        }
        return all;
    }

    /** Puts the bytes on the book's tape, which is empty. */
    static void tape(TraceBook book, int... bytes) {
        for (int i = 0; i < bytes.length; i += 4) {
            int four = 0;
            for (int k = i; k < i + 4; k++) {
                four = four << 8 | (k < bytes.length ? bytes[k] : 0);
            }
            book.feed(four);
        }
        book.end(bytes.length);
    }

    static TraceBook book(int... widths) {
        TraceBook book = new TraceBook();
        for (int width : widths) {
            book.wire(width);
        }
        return book;
    }

    /** To be called last: tells the outcome, and ends the program with 1 when an answer was wrong. */
    static void finish() {
        System.out.println(wrong == 0 ? "all answers are as due" : wrong + " answers are not as due");
        if (wrong != 0) {
            System.exit(1);
        }
    }
}
