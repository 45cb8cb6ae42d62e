import java.util.ArrayList;
import java.util.List;
import java.util.Random;

/** Long runs of calls, the same in each run of this test, answered by the class and by the model. */
public final class ModelTest {
    private static final int RUNS = 3000;
    private static final long MOST = (1L << 60) - 1;

    private final Random random;
    private final Book book = Book.of();
    private final Model model = new Model();
    private final StringBuilder story = new StringBuilder();
    private final int manyWires;
    /** Every other run asks for the whole row at last; the others make all their calls before. */
    private final boolean asksRow;
    private long time = 0;
    private long step = 0;

    private interface Call {
        long run();
    }

    private ModelTest(long seed) {
        random = new Random(seed);
        asksRow = seed % 2 == 0;
        manyWires = random.nextInt(10) == 0 ? 205 : 1 + random.nextInt(6);
    }

    public static void main(String[] args) {
        for (int seed = 1; seed <= RUNS; seed++) {
            ModelTest run = new ModelTest(seed);
            for (int k = 0; run.spareCalls() > 0; k++) {
                run.call(k);
            }
            if (run.book.callsLeft() > run.model.row().size()) {
                run.both("the row", () -> sum(run.book.bytes()), () -> sum(run.model.row()));
            }
        }
        Check.finish();
    }

    /** How many calls are left when the row's bytes, and those of a moment more, are to be asked at last. */
    private int spareCalls() {
        return book.callsLeft() - (asksRow ? model.row().size() + 100 : 0);
    }

    private static long sum(List<Integer> bytes) {
        return bytes.hashCode();
    }

    private static String ofBook(Call call) {
        try {
            return Long.toString(call.run());
        } catch (RuntimeException e) {
            return Check.thrown(e);
        }
    }

    private static String ofModel(Call call) {
        try {
            return Long.toString(call.run());
        } catch (RuntimeException e) {
            return e.getClass().getName();
        }
    }

    private void both(String name, Call ofBook, Call ofModel) {
        story.append(name).append("; ");
        String got = ofBook(ofBook);
        String due = ofModel(ofModel);
        if (!got.equals(due)) {
            Check.due(story + "the last", got, due);
            Check.finish();
        }
    }

    /** A number about the ends of 0 .. most - 1, or within. */
    private int near(int most) {
        switch (random.nextInt(40)) {
            case 0:
                return -1;
            case 1:
                return most;
            case 2:
                return random.nextInt();
            default:
                return most > 0 ? random.nextInt(most) : 0;
        }
    }

    private int wire() {
        return near(model.widths.size());
    }

    private int element(int wire) {
        return near(wire >= 0 && wire < model.widths.size() ? model.widths.get(wire) : 3);
    }

    private void call(int k) {
        int kind = random.nextInt(k < manyWires && random.nextInt(8) > 0 ? 1 : 100);
        if (kind < 3) {
            int width = random.nextInt(4) == 0 ? near(66) : 1 + random.nextInt(9);
            both("wire " + width, () -> book.wire(width), () -> model.wire(width));
        } else if (kind < 20) {
            open();
        } else if (kind < 55) {
            int w = wire();
            int e = element(w);
            int value = near(9);
            both("change " + w + " " + e + " " + value, () -> book.change(w, e, value) ? 1 : 0,
                () -> model.change(w, e, value));
        } else if (kind < 60) {
            both("close", book::close, model::close);
        } else if (kind < 95) {
            ask(random.nextInt(9));
        } else {
            tape();
        }
    }

    private void open() {
        long further = 1L << random.nextInt(random.nextInt(20) == 0 ? 62 : 20);
        long near = further - random.nextInt(3);
        long newTime = random.nextInt(3) == 0 ? time + near : time;
        long newStep = newTime != time && random.nextBoolean() ? random.nextInt(300) : step + near;
        if (random.nextInt(50) == 0) {
            newTime = random.nextBoolean() ? MOST : random.nextLong();
        }
        if (random.nextInt(50) == 0) {
            newStep = random.nextBoolean() ? MOST : random.nextLong();
        }
        long t = newTime;
        long s = newStep;
        both("open " + t + " " + s, () -> {
            book.open(t, s);
            return 0;
        }, () -> model.open(t, s));
        if (t >= 0 && t < 1L << 50 && s >= 0 && s < 1L << 50) {
            time = t;
            step = s;
        }
    }

    private void ask(int kind) {
        int m = near((int) model.moments());
        int c = near(3);
        int what = near(4);
        int w = wire();
        int e = element(w);
        long t = time - random.nextInt(1 << random.nextInt(20));
        long s = random.nextInt(3) == 0 ? random.nextLong() : step - random.nextInt(1 << random.nextInt(20));
        int i = near(model.row().size());
        switch (kind) {
            case 0 -> both("wires", book::wires, () -> model.widths.size());
            case 1 -> both("width " + w, () -> book.width(w), () -> model.width(w));
            case 2 -> both("moments", book::moments, model::moments);
            case 3 -> both("moment " + m + " " + what, () -> book.moment(m, what), () -> model.moment(m, what));
            case 4 -> both("changed " + m + " " + c + " " + what, () -> book.changed(m, c, what),
                () -> model.changed(m, c, what));
            case 5 -> both("at " + t + " " + s + " " + w + " " + e, () -> book.at(t, s, w, e),
                () -> model.at(t, s, w, e));
            case 6 -> both("next " + w + " " + m, () -> book.next(w, m), () -> model.next(w, m));
            case 7 -> both("size", book::size, () -> model.row().size());
            default -> both("byteAt " + i, () -> book.byteAt(i), () -> model.byteAt(i));
        }
    }

    /** Feeds a row, mostly one that is nearly good, and loads it. */
    private void tape() {
        List<Integer> bytes = new ArrayList<>();
        if (random.nextInt(3) == 0) {
            bytes.addAll(model.row());
        } else {
            someRow(bytes);
        }
        if (random.nextInt(3) > 0) {
            spoil(bytes);
        }
        int fewest = bytes.size() / 4 + 3 + (asksRow ? bytes.size() : 0);
        if (fewest > spareCalls()) {
            return;
        }
        for (int i = 0; i < bytes.size(); i += 4) {
            int four = 0;
            for (int k = i; k < i + 4; k++) {
                four = four << 8 | (k < bytes.size() ? bytes.get(k) : random.nextInt(256));
            }
            int fed = four;
            both("feed " + fed, () -> book.feed(fed), () -> model.feed(fed));
        }
        int n = random.nextInt(20) == 0 ? near(bytes.size() + 5) : bytes.size();
        both("end " + n, () -> {
            book.end(n);
            return 0;
        }, () -> model.end(n));
        if (random.nextInt(20) > 0) {
            both("load", book::load, model::load);
        }
    }

    /** The row of a model with the same wires and moments of its own. */
    private void someRow(List<Integer> bytes) {
        Model other = new Model();
        for (int width : model.widths) {
            other.wire(width);
        }
        long t = 0;
        long s = -1;
        int moments = random.nextInt(7);
        for (int m = 0; m < moments; m++) {
            boolean same = random.nextBoolean();
            t += same ? 0 : 1L << random.nextInt(57);
            s = same ? s + (1L << random.nextInt(57)) : random.nextInt(300);
            other.open(t, s);
            int changes = random.nextInt(5);
            for (int c = 0; c < changes && !model.widths.isEmpty(); c++) {
                int w = random.nextInt(model.widths.size());
                other.change(w, random.nextInt(model.widths.get(w)), random.nextInt(9));
            }
            other.close();
        }
        bytes.addAll(other.row());
    }

    private void spoil(List<Integer> bytes) {
        int times = 1 + random.nextInt(2);
        for (int k = 0; k < times; k++) {
            int i = random.nextInt(bytes.size() + 1);
            switch (random.nextInt(6)) {
                case 0 -> bytes.subList(i, bytes.size()).clear();
                case 1 -> bytes.add(i, random.nextInt(256));
                case 2 -> bytes.add(i, random.nextInt(4));
                case 3 -> insert(bytes, i, 128 + random.nextInt(2) * 127, 7 + random.nextInt(5));
                default -> {
                    if (i < bytes.size()) {
                        bytes.set(i, random.nextBoolean() ? random.nextInt(256) : bytes.get(i) ^ 1 << random.nextInt(8));
                    }
                }
            }
        }
    }

    private static void insert(List<Integer> bytes, int i, int one, int times) {
        for (int k = 0; k < times; k++) {
            bytes.add(i, one);
        }
    }
}
