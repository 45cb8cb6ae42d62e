import java.util.ArrayList;
import java.util.Collection;
import java.util.LinkedHashSet;
import java.util.List;
import java.util.Set;

/**
 * What it is: "kept as a packed row of bytes of just one form [..] and read again from such a row". So load() takes
 * what calls make, and each tape that it takes is what calls make.
 */
public final class FormTest {
    private static final int[] WIDTHS = {2, 1};
    private static final long[][] MOMENTS = {{0, 0}, {0, 1}, {0, 63}, {0, 64}, {1, 0}, {1, 1}, {64, 128}};
    /** Wire, element, value of each change of a moment. */
    private static final int[][][] CHANGES = {
        {{0, 0, 1}}, {{0, 1, 8}}, {{1, 0, 2}}, {{0, 0, 0}}, {{0, 0, 2}, {0, 1, 1}}, {{0, 1, 0}, {1, 0, 1}},
        {{0, 0, 3}, {0, 1, 0}, {1, 0, 8}},
    };

    public static void main(String[] args) {
        Set<List<Integer>> rows = rowsThatCallsMake();
        shortTapes();
        eachRowIsTaken(rows);
        tapesOneByteAway(rows);
        Check.finish();
    }

    /** Rows of no moment, of one and of two. */
    private static Set<List<Integer>> rowsThatCallsMake() {
        Set<List<Integer>> rows = new LinkedHashSet<>();
        for (int m = 0; m < MOMENTS.length; m++) {
            for (int c = 0; c < CHANGES.length; c++) {
                rows.add(made(m, c).bytes());
                for (int next = m + 1; next < MOMENTS.length; next += 2) {
                    Book book = made(m, c);
                    add(book, next, (c + next + 1) % CHANGES.length);
                    rows.add(book.bytes());
                }
            }
        }
        return rows;
    }

    private static Book made(int m, int c) {
        Book book = Book.of(WIDTHS);
        add(book, m, c);
        return book;
    }

    private static void add(Book book, int m, int c) {
        book.open(MOMENTS[m][0], MOMENTS[m][1]);
        for (int[] one : CHANGES[c]) {
            book.change(one[0], one[1], one[2]);
        }
        book.close();
    }

    private static int[] bytes(Collection<Integer> tape) {
        return tape.stream().mapToInt(Integer::intValue).toArray();
    }

    private static int load(List<Integer> tape) {
        return Book.of(WIDTHS).tape(bytes(tape)).load();
    }

    /** All tapes of up to four bytes: of these calls make the empty one, and a moment of time 0 with one change. */
    private static void shortTapes() {
        int[] values = {0, 1, 2, 3, 4, 7, 8, 9, 15, 16, 17, 24, 25, 32, 33, 127, 128, 129, 255};
        Book book = Book.of(WIDTHS);
        for (int tape = 0; tape < values.length * values.length * values.length * values.length; tape++) {
            List<Integer> four = new ArrayList<>();
            for (int rest = tape; four.size() < 4; rest /= values.length) {
                four.add(values[rest % values.length]);
            }
            for (int n = 0; n <= 4; n++) {
                book = book.callsLeft() < 5 ? Book.of(WIDTHS) : book;
                boolean taken = book.tape(bytes(four.subList(0, n))).load() == TraceBook.NONE;
                Check.due("load takes " + four.subList(0, n), taken, n == 0 || n == 4 && isMoment(four));
            }
        }
    }

    private static boolean isMoment(List<Integer> four) {
        int head = four.get(0);
        int element = four.get(3) / 16;
        int value = four.get(3) % 16;
        return head % 2 == 1 && head >= 3 && head < 128 && four.get(1) == 1
            && four.get(2) < WIDTHS.length && element < WIDTHS[four.get(2)] && value >= 1 && value <= 8;
    }

    private static void eachRowIsTaken(Set<List<Integer>> rows) {
        for (List<Integer> row : rows) {
            Check.due("load of " + row, load(row), TraceBook.NONE);
            isWhatCallsMake(row);
        }
    }

    /** Every tape that has one byte of a row otherwise, or one less, or one more. */
    private static void tapesOneByteAway(Set<List<Integer>> rows) {
        for (List<Integer> row : rows) {
            for (int i = 0; i <= row.size(); i++) {
                for (int one = 0; one < 256; one += one < 20 || one >= 124 && one < 132 ? 1 : 4) {
                    judge(otherwise(row.subList(0, i), one, row.subList(Math.min(i + 1, row.size()), row.size())));
                    judge(otherwise(row.subList(0, i), one, row.subList(i, row.size())));
                }
                if (i < row.size()) {
                    List<Integer> less = new ArrayList<>(row);
                    less.remove(i);
                    judge(less);
                }
            }
        }
    }

    private static List<Integer> otherwise(List<Integer> before, int one, List<Integer> behind) {
        List<Integer> tape = new ArrayList<>(before);
        tape.add(one);
        tape.addAll(behind);
        return tape;
    }

    private static void judge(List<Integer> tape) {
        int place = load(tape);
        if (place == TraceBook.NONE) {
            isWhatCallsMake(tape);
        } else {
            isTheFirstWrongPlace(tape, place);
        }
    }

    /** A book on which the moments and changes are made that the tape told has the tape's bytes. */
    private static void isWhatCallsMake(List<Integer> tape) {
        Book told = Book.of(WIDTHS).tape(bytes(tape));
        told.load();
        Book again = Book.of(WIDTHS);
        int moments = told.moments();
        for (int m = 0; m < moments; m++) {
            again.open(told.moment(m, 0), told.moment(m, 1));
            long changes = told.moment(m, 2);
            for (int c = 0; c < changes; c++) {
                boolean other = again.change(told.changed(m, c, 0), told.changed(m, c, 1), told.changed(m, c, 2));
                Check.due("change " + c + " of moment " + m + " of " + tape, other, true);
            }
        }
        again.close();
        Check.due("the row made again of " + tape, again.bytes(), tape);
    }

    /** What stands before the place is no fault; what stands behind the count at the place does not matter. */
    private static void isTheFirstWrongPlace(List<Integer> tape, int place) {
        int before = load(tape.subList(0, place));
        Check.due("load of the first " + place + " bytes of " + tape + " is good or ends too early",
            before == TraceBook.NONE || before == place, true);
        if (place < tape.size()) {
            int behind = place;
            while (tape.get(behind) >= 128 && behind < place + 9) {
                behind++;
            }
            Check.due("load of " + tape + " without what is behind the wrong count",
                load(tape.subList(0, behind + 1)), place);
        }
    }
}
