import java.util.ArrayList;
import java.util.Arrays;

/**
 * A book of what happened on wires: changes of values at moments, kept as a packed row of bytes
 * of just one form, asked by time and by wire, and read again from such a row.
 */
public final class TraceBook {
    public static final int NONE = -1;

    private static final int MOST_WIRES = 200;
    private static final int MOST_WIDTH = 64;
    private static final int MOST_VALUE = 8;
    private static final int MOST_BYTES = 60000;
    private static final long MOST_TIME = (1L << 60) - 1;
    private static final long MOST_COUNT = (1L << 62) - 1;
    private static final int COUNT_BYTES = 9;

    private final Wires allWires;
    private final Bytes tape;
    private Row row;
    /** load() reads into it, so that a bad tape leaves the row as it was. */
    private Row spareRow;
    /** The latest moment that was opened, with changes or without; null when none was. */
    private Moment latest;
    /** The latest one while it is open; null when none is. */
    private Moment openMoment;

    public TraceBook() {
        allWires = new Wires();
        tape = new Bytes();
        row = new Row();
        spareRow = new Row();
        latest = null;
        openMoment = null;
    }

    public int wire(int width) throws IllegalArgumentException, IllegalStateException {
        if (width < 1 || width > MOST_WIDTH) {
            throw new IllegalArgumentException("the width is not 1 .. 64");
        }
        if (allWires.count >= MOST_WIRES) {
            throw new IllegalStateException("there are 200 wires");
        }
        if (latest != null) {
            throw new IllegalStateException("a moment was opened");
        }
        return allWires.add(width);
    }

    public int wires() {
        return allWires.count;
    }

    public int width(int wire) throws IndexOutOfBoundsException {
        if (!allWires.has(wire)) {
            throw new IndexOutOfBoundsException("no such wire");
        }
        return allWires.widthOf(wire);
    }

    public void open(long time, long step) throws IllegalArgumentException, IllegalStateException {
        if (time < 0 || time > MOST_TIME || step < 0 || step > MOST_TIME) {
            throw new IllegalArgumentException("time or step is not 0 .. 2^60 - 1");
        }
        Moment opened = new Moment(time, step);
        if (latest != null && !opened.isLaterThan(latest.time, latest.step)) {
            throw new IllegalArgumentException("not later than the latest moment");
        }
        if (!closeOpenMoment()) {
            throw new IllegalStateException("the row would have more than 60000 bytes");
        }
        latest = opened;
        openMoment = opened;
    }

    public boolean change(int wire, int element, int value)
            throws IndexOutOfBoundsException, IllegalArgumentException, IllegalStateException {
        if (!allWires.hasElement(wire, element)) {
            throw new IndexOutOfBoundsException("no such wire or element");
        }
        if (value < 0 || value > MOST_VALUE) {
            throw new IllegalArgumentException("no such value");
        }
        if (openMoment == null) {
            throw new IllegalStateException("no moment is open");
        }
        return openMoment.put(wire, element, value, row.valueOf(wire, element));
    }

    public int close() throws IllegalStateException {
        if (openMoment == null) {
            return NONE;
        }
        int changes = openMoment.changes.size();
        if (!closeOpenMoment()) {
            throw new IllegalStateException("the row would have more than 60000 bytes");
        }
        return changes;
    }

    public int moments() {
        return row.moments.size();
    }

    public long moment(int m, int what) throws IndexOutOfBoundsException, IllegalArgumentException {
        if (m < 0 || m >= row.moments.size()) {
            throw new IndexOutOfBoundsException("no such moment");
        }
        Moment asked = row.moments.get(m);
        switch (what) {
            case 0:
                return asked.time;
            case 1:
                return asked.step;
            case 2:
                return asked.changes.size();
            case 3:
                return asked.place;
            default:
                throw new IllegalArgumentException("what is not 0 .. 3");
        }
    }

    public int changed(int m, int c, int what) throws IndexOutOfBoundsException, IllegalArgumentException {
        if (m < 0 || m >= row.moments.size()) {
            throw new IndexOutOfBoundsException("no such moment");
        }
        Moment asked = row.moments.get(m);
        if (c < 0 || c >= asked.changes.size()) {
            throw new IndexOutOfBoundsException("no such change");
        }
        Change one = asked.changes.get(c);
        switch (what) {
            case 0:
                return one.wire;
            case 1:
                return one.element;
            case 2:
                return one.value;
            case 3:
                return one.before;
            default:
                throw new IllegalArgumentException("what is not 0 .. 3");
        }
    }

    public int at(long time, long step, int wire, int element) throws IndexOutOfBoundsException {
        if (!allWires.hasElement(wire, element)) {
            throw new IndexOutOfBoundsException("no such wire or element");
        }
        return row.valueBehind(time, step, wire, element);
    }

    public int next(int wire, int m) throws IndexOutOfBoundsException, IllegalArgumentException {
        if (!allWires.has(wire)) {
            throw new IndexOutOfBoundsException("no such wire");
        }
        if (m < 0) {
            throw new IllegalArgumentException("m is below 0");
        }
        for (int i = m; i < row.moments.size(); i++) {
            if (row.moments.get(i).changesWire(wire)) {
                return i;
            }
        }
        return NONE;
    }

    public int size() {
        return row.bytes.length;
    }

    public int byteAt(int i) throws IndexOutOfBoundsException {
        if (i < 0 || i >= row.bytes.length) {
            throw new IndexOutOfBoundsException("no such byte");
        }
        return row.bytes.get(i);
    }

    public int feed(int four) throws IllegalStateException {
        if (tape.length > MOST_BYTES - 4) {
            throw new IllegalStateException("the tape would have more than 60000 bytes");
        }
        for (int shift = 24; shift >= 0; shift -= 8) {
            tape.add(four >>> shift);
        }
        return tape.length;
    }

    public void end(int n) throws IllegalArgumentException {
        if (n < 0 || n > tape.length) {
            throw new IllegalArgumentException("the tape has not so many bytes");
        }
        tape.cut(n);
    }

    public int load() {
        spareRow.clear();
        Reader reader = new Reader(tape, allWires, spareRow);
        int fault = reader.readRow();
        tape.cut(0);
        if (fault == NONE) {
            takeSpareRow();
        }
        return fault;
    }

    private void takeSpareRow() {
        Row loaded = spareRow;
        spareRow = row;
        row = loaded;
        latest = row.lastMoment();
        openMoment = null;
    }

    /** Closes the open moment if there is one; false, and nothing is changed, when the row has no room for it. */
    private boolean closeOpenMoment() {
        if (openMoment != null && !openMoment.changes.isEmpty() && !row.append(openMoment)) {
            return false;
        }
        openMoment = null;
        return true;
    }

    /** The wires and their widths. */
    private static final class Wires {
        private final int[] widths;
        private int count;

        Wires() {
            widths = new int[MOST_WIRES];
            count = 0;
        }

        boolean has(int wire) {
            return wire >= 0 && wire < count && wire < widths.length;
        }

        int widthOf(int wire) {
            return has(wire) ? widths[wire] : 0;
        }

        boolean hasElement(int wire, int element) {
            return has(wire) && element >= 0 && element < widthOf(wire);
        }

        /** The number of the new wire; NONE when there is no room for it. */
        int add(int width) {
            if (count >= widths.length) {
                return NONE;
            }
            widths[count] = width;
            count++;
            return count - 1;
        }
    }

    /** An element's new value in a moment, and the one behind the moment before. */
    private static final class Change {
        private final int wire;
        private final int element;
        private final int value;
        private final int before;

        Change(int wire, int element, int value, int before) {
            this.wire = wire;
            this.element = element;
            this.value = value;
            this.before = before;
        }

        boolean isOf(int otherWire, int otherElement) {
            return wire == otherWire && element == otherElement;
        }

        boolean standsBefore(int otherWire, int otherElement) {
            return wire < otherWire || wire == otherWire && element < otherElement;
        }
    }

    /** A moment with its changes, which are by wires and elements in rising order at any time. */
    private static final class Moment {
        private final long time;
        private final long step;
        private final ArrayList<Change> changes;
        /** Where its first byte is; it has none before it is in a row. */
        private int place;

        Moment(long time, long step) {
            this.time = time;
            this.step = step;
            changes = new ArrayList<Change>();
            place = NONE;
        }

        boolean isLaterThan(long otherTime, long otherStep) {
            return time > otherTime || time == otherTime && step > otherStep;
        }

        boolean changesWire(int wire) {
            int i = indexFor(wire, 0);
            return i < changes.size() && changes.get(i).wire == wire;
        }

        /** The element's value behind this moment, when it had another one before. */
        int valueBehind(int wire, int element, int before) {
            int i = indexFor(wire, element);
            return isChangeOf(i, wire, element) ? changes.get(i).value : before;
        }

        /** Gives an element a value: whether it had another one. A value as before the moment is no change. */
        boolean put(int wire, int element, int value, int before) {
            int i = indexFor(wire, element);
            boolean known = isChangeOf(i, wire, element);
            int now = known ? changes.get(i).value : before;
            if (value == now) {
                return false;
            }
            if (!known) {
                changes.add(i, new Change(wire, element, value, before));
            } else if (value == before) {
                changes.remove(i);
            } else {
                changes.set(i, new Change(wire, element, value, before));
            }
            return true;
        }

        /** Where the change of an element stands, or would stand. */
        private int indexFor(int wire, int element) {
            for (int i = 0; i < changes.size(); i++) {
                if (!changes.get(i).standsBefore(wire, element)) {
                    return i;
                }
            }
            return changes.size();
        }

        private boolean isChangeOf(int i, int wire, int element) {
            return i < changes.size() && changes.get(i).isOf(wire, element);
        }
    }

    /** Bytes one behind the other, and counts written in them. */
    private static final class Bytes {
        private byte[] kept;
        private int length;

        Bytes() {
            kept = new byte[64];
            length = 0;
        }

        int get(int i) {
            return i >= 0 && i < length && i < kept.length ? kept[i] & 255 : 0;
        }

        void add(int one) {
            if (length >= kept.length) {
                kept = Arrays.copyOf(kept, 2 * length + 1);
            }
            kept[length] = (byte) one;
            length++;
        }

        void addCount(long count) {
            long rest = count;
            for (int k = 1; k < COUNT_BYTES && rest > 127; k++) {
                add((int) (rest & 127) | 128);
                rest >>>= 7;
            }
            add((int) rest);
        }

        void cut(int n) {
            if (n >= 0 && n <= length) {
                length = n;
            }
        }
    }

    /** The row: its bytes, and what they tell. */
    private static final class Row {
        private final Bytes bytes;
        private final ArrayList<Moment> moments;
        /** The values behind all moments; what stands beyond its length is 0. */
        private byte[] values;

        Row() {
            bytes = new Bytes();
            moments = new ArrayList<Moment>();
            values = new byte[MOST_WIDTH];
        }

        void clear() {
            bytes.cut(0);
            moments.clear();
            Arrays.fill(values, (byte) 0);
        }

        Moment lastMoment() {
            return moments.isEmpty() ? null : moments.get(moments.size() - 1);
        }

        /** What the next moment's time is told from. */
        long lastTime() {
            Moment last = lastMoment();
            return last == null ? 0 : last.time;
        }

        /** What the next moment's step is told from. */
        long lastStep() {
            Moment last = lastMoment();
            return last == null ? -1 : last.step;
        }

        int valueOf(int wire, int element) {
            int cell = wire * MOST_WIDTH + element;
            return cell >= 0 && cell < values.length ? values[cell] : 0;
        }

        int valueBehind(long time, long step, int wire, int element) {
            int value = 0;
            for (int i = 0; i < moments.size(); i++) {
                Moment one = moments.get(i);
                if (one.isLaterThan(time, step)) {
                    return value;
                }
                value = one.valueBehind(wire, element, value);
            }
            return value;
        }

        /** Takes a moment that has changes to the row's end; false, and nothing is changed, when there is no room. */
        boolean append(Moment moment) {
            int start = bytes.length;
            writeMoment(moment);
            if (bytes.length > MOST_BYTES) {
                bytes.cut(start);
                return false;
            }
            moment.place = start;
            moments.add(moment);
            for (int i = 0; i < moment.changes.size(); i++) {
                keepValue(moment.changes.get(i));
            }
            return true;
        }

        private void writeMoment(Moment moment) {
            long further = moment.time - lastTime();
            if (further == 0) {
                bytes.addCount(2 * (moment.step - lastStep()) + 1);
            } else {
                bytes.addCount(2 * further);
                bytes.addCount(moment.step);
            }
            bytes.addCount(moment.changes.size());
            int wire = 0;
            for (int i = 0; i < moment.changes.size(); i++) {
                Change one = moment.changes.get(i);
                bytes.addCount(one.wire - wire);
                bytes.addCount(16 * one.element + one.value);
                wire = one.wire;
            }
        }

        private void keepValue(Change one) {
            int cell = one.wire * MOST_WIDTH + one.element;
            if (cell >= values.length) {
                values = Arrays.copyOf(values, Math.max(cell + 1, 2 * values.length));
            }
            if (cell >= 0) {
                values[cell] = (byte) one.value;
            }
        }
    }

    /** Reads a tape into an empty row, up to the first count that is wrong. */
    private static final class Reader {
        private static final long NO_COUNT = -1;

        private final Bytes tape;
        private final Wires wires;
        private final Row row;
        private int place;
        private int fault;

        Reader(Bytes tape, Wires wires, Row row) {
            this.tape = tape;
            this.wires = wires;
            this.row = row;
            place = 0;
            fault = NONE;
        }

        /** NONE, or the place of the fault. */
        int readRow() {
            // a moment takes a byte at least, so that no tape has more moments than bytes
            for (int k = 0; k < tape.length && place < tape.length && fault == NONE; k++) {
                Moment moment = readMoment();
                if (moment != null) {
                    row.append(moment);
                }
            }
            return fault;
        }

        /** The next moment; null when there is a fault in it. */
        private Moment readMoment() {
            int start = place;
            long head = readCount();
            if (fault != NONE) {
                return null;
            }
            boolean sameTime = (head & 1) == 1;
            long further = head >> 1;
            long time = sameTime ? row.lastTime() : row.lastTime() + further;
            long step = sameTime ? row.lastStep() + further : 0;
            if (further == 0 || time > MOST_TIME || step > MOST_TIME) {
                fault = start;
                return null;
            }
            if (!sameTime) {
                step = readCountWithin(0, MOST_TIME);
            }
            long count = readCountWithin(1, MOST_COUNT);
            Moment moment = new Moment(time, step);
            // a change takes two bytes at least, so that no tape has more changes than bytes
            for (int k = 0; k < count && k < tape.length && fault == NONE; k++) {
                readChange(moment.changes);
            }
            return fault == NONE ? moment : null;
        }

        private void readChange(ArrayList<Change> changes) {
            Change last = changes.isEmpty() ? null : changes.get(changes.size() - 1);
            int lastWire = last == null ? 0 : last.wire;
            int lastElement = last == null ? -1 : last.element;
            long further = readCountWithin(0, wires.count - 1 - lastWire);
            int start = place;
            long told = readCount();
            if (fault != NONE) {
                return;
            }
            int wire = lastWire + (int) further;
            long element = told >> 4;
            int value = (int) (told & 15);
            boolean rises = further > 0 || element > lastElement;
            if (!rises || element >= wires.widthOf(wire) || value > MOST_VALUE) {
                fault = start;
                return;
            }
            int before = row.valueOf(wire, (int) element);
            if (value == before) {
                fault = start;
                return;
            }
            changes.add(new Change(wire, (int) element, value, before));
        }

        /** The next count; a fault when it is not least .. most. */
        private long readCountWithin(long least, long most) {
            int start = place;
            long count = readCount();
            if (fault == NONE && (count < least || count > most)) {
                fault = start;
            }
            return count;
        }

        /** The next count; NO_COUNT when there is a fault already, or the count is one. */
        private long readCount() {
            if (fault != NONE) {
                return NO_COUNT;
            }
            int start = place;
            long count = 0;
            for (int k = 0; k < COUNT_BYTES && place < tape.length; k++) {
                int one = tape.get(place);
                place++;
                count |= (one & 127L) << (7 * k);
                if (one < 128) {
                    boolean tooLong = one == 0 && k > 0;
                    fault = tooLong || count > MOST_COUNT ? start : NONE;
                    return fault == NONE ? count : NO_COUNT;
                }
            }
            // a count that goes on behind nine bytes is wrong only where a tenth byte is there
            fault = place < tape.length ? start : tape.length;
            return NO_COUNT;
        }
    }
}
