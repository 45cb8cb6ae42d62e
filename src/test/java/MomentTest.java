/** Promises 5 to 7, sentence by sentence: open, change, close. (LimitTest has the 60000 bytes.) */
public final class MomentTest {
    private static final long MOST = Check.MOST;

    public static void main(String[] args) {
        openOpensAMoment();
        openClosesTheOneBefore();
        openRefusesTimes();
        openRefusesSteps();
        openRefusesWhatIsNotLater();
        openRefusesWhatIsNotLaterThanOneWithoutChanges();
        openComparesWithTheLatestThatWasOpened();
        openRefusedLeavesTheOneBeforeOpen();
        changeAnswersWhetherItHadAnotherOne();
        changeTakesTheLeastAndTheGreatest();
        changeRefusesNoWire();
        changeRefusesNoElement();
        changeRefusesNoValue();
        changeRefusesWhenNoMomentIsOpen();
        changeRefusesTheFirstThatIsNamed();
        closeAnswersHowManyChanges();
        closeCountsElements();
        closeWhenNoneIsOpen();
        asManyMomentsAsCallsCanBring();
        Check.finish();
    }

    private static Book opened() {
        Book book = Book.of(2, 3);
        book.open(5, 5);
        return book;
    }

    private static Book changed() {
        return Book.of(2, 3).with(5, 5, 0, 1, 4);
    }

    private static Book closed() {
        Book book = changed();
        book.close();
        return book;
    }

    private static Book closedWithoutChanges() {
        Book book = opened();
        book.close();
        return book;
    }

    /** Promise 5: "A moment is opened". */
    private static void openOpensAMoment() {
        Check.due("a change of the opened moment", opened().change(0, 1, 4), true);
        Check.due("close of the opened moment", opened().close(), 0);
        Book again = closed();
        again.open(5, 6);
        Check.due("a change of a moment behind a closed one", again.change(0, 1, 3), true);
        Book noWires = Book.of();
        noWires.open(0, 0);
        Check.due("close of a moment of no wires", noWires.close(), 0);
        Check.due("moments then", noWires.moments(), 0);
    }

    /** Promise 5: "the one before is closed". */
    private static void openClosesTheOneBefore() {
        Book book = changed();
        Check.due("moments before the next is opened", book.moments(), 0);
        book.open(5, 6);
        Check.due("moments when the next is opened", book.moments(), 1);
        Check.due("the row then", book.row(), "(5, 5) at 0: 0.1=4<0; [10, 5, 1, 0, 20]");
        Check.due("close of the next", book.close(), 0);
        Check.due("moments then", book.moments(), 1);

        Book without = opened();
        without.open(5, 6);
        Check.due("moments behind one without changes", without.moments(), 0);
        Check.due("a change of the next", without.change(0, 1, 4), true);
        Check.due("its close", without.close(), 1);
        Check.due("the row behind it", without.row(), "(5, 6) at 0: 0.1=4<0; [10, 6, 1, 0, 20]");
    }

    private static void openRefuses(long time, long step) {
        Check.refused("open(" + time + ", " + step + ") of no moment", () -> Book.of(1), Check.ARGUMENT,
            x -> x.open(time, step));
        Check.refused("open(" + time + ", " + step + ") behind (5, 5)", MomentTest::changed, Check.ARGUMENT,
            x -> x.open(time, step));
    }

    private static void openTakes(long time, long step) {
        Book book = Book.of(1).with(time, step, 0, 0, 1);
        book.close();
        Check.due("the time of open(" + time + ", " + step + ")", book.moment(0, 0), time);
        Check.due("the step of open(" + time + ", " + step + ")", book.moment(0, 1), step);
    }

    /** Promise 5: "IllegalArgumentException when time [..] is not 0 .. 2^60 - 1". */
    private static void openRefusesTimes() {
        for (long time : new long[] {0, 1, MOST - 1, MOST}) {
            openTakes(time, 7);
        }
        for (long time : new long[] {-1, -MOST, -MOST - 1, MOST + 1, MOST + 2, 1L << 61, 1L << 62, Long.MIN_VALUE,
            Long.MAX_VALUE}) {
            openRefuses(time, 7);
        }
    }

    /** Promise 5: "IllegalArgumentException when [..] step is not 0 .. 2^60 - 1". */
    private static void openRefusesSteps() {
        for (long step : new long[] {0, 1, MOST - 1, MOST}) {
            openTakes(7, step);
            openTakes(0, step);
        }
        for (long step : new long[] {-1, -MOST, -MOST - 1, MOST + 1, MOST + 2, 1L << 61, 1L << 62, Long.MIN_VALUE,
            Long.MAX_VALUE}) {
            openRefuses(7, step);
            openRefuses(5, step);
        }
    }

    /** Promise 5: "IllegalArgumentException when [..] it is not later than the latest one that was opened". */
    private static void openRefusesWhatIsNotLater() {
        long[][] notLater = {{5, 5}, {5, 4}, {5, 0}, {4, 5}, {4, 6}, {4, MOST}, {0, 0}, {0, MOST}};
        for (long[] one : notLater) {
            String what = "open(" + one[0] + ", " + one[1] + ")";
            Check.refused(what + " while (5, 5) is open", MomentTest::changed, Check.ARGUMENT,
                x -> x.open(one[0], one[1]));
            Check.refused(what + " behind (5, 5)", MomentTest::closed, Check.ARGUMENT, x -> x.open(one[0], one[1]));
        }
        long[][] later = {{5, 6}, {5, MOST}, {6, 0}, {6, 4}, {6, 5}, {MOST, 0}};
        for (long[] one : later) {
            String what = "open(" + one[0] + ", " + one[1] + ")";
            Check.taken(what + " while (5, 5) is open", MomentTest::changed, x -> x.open(one[0], one[1]));
            Check.taken(what + " behind (5, 5)", MomentTest::closed, x -> x.open(one[0], one[1]));
        }
        Check.refused("the least moment again", () -> Book.of(1).with(0, 0, 0, 0, 1), Check.ARGUMENT,
            x -> x.open(0, 0));
        Check.refused("the greatest moment again", () -> Book.of(1).with(MOST, MOST, 0, 0, 1), Check.ARGUMENT,
            x -> x.open(MOST, MOST));
        Check.taken("the greatest moment", () -> Book.of(1).with(MOST, MOST - 1, 0, 0, 1), x -> x.open(MOST, MOST));
    }

    /** Promise 5: "the latest one that was opened (also if that has no changes)". */
    private static void openRefusesWhatIsNotLaterThanOneWithoutChanges() {
        Check.refused("(5, 5) while it is open without changes", MomentTest::opened, Check.ARGUMENT,
            x -> x.open(5, 5));
        Check.refused("(5, 5) behind it without changes", MomentTest::closedWithoutChanges, Check.ARGUMENT,
            x -> x.open(5, 5));
        Check.refused("(5, 4) behind (5, 5) without changes", MomentTest::closedWithoutChanges, Check.ARGUMENT,
            x -> x.open(5, 4));
        Check.refused("(4, 9) behind (5, 5) without changes", MomentTest::closedWithoutChanges, Check.ARGUMENT,
            x -> x.open(4, 9));
        Check.taken("(5, 6) behind (5, 5) without changes", MomentTest::closedWithoutChanges, x -> x.open(5, 6));
        Check.taken("(6, 0) behind (5, 5) without changes", MomentTest::closedWithoutChanges, x -> x.open(6, 0));
    }

    /** Promise 5, "the latest one that was opened": not the row's last, and none that was refused. */
    private static void openComparesWithTheLatestThatWasOpened() {
        Book book = changed();
        book.open(7, 7);
        book.close();
        Check.due("open(7, 7) behind the row's (5, 5) and (7, 7)", Check.answer(() -> {
            book.open(7, 7);
            return "done";
        }), Check.ARGUMENT.getName());
        Check.due("open(6, 0) behind the row's (5, 5) and (7, 7)", Check.answer(() -> {
            book.open(6, 0);
            return "done";
        }), Check.ARGUMENT.getName());
        Check.due("open(10, -1)", Check.answer(() -> {
            book.open(10, -1);
            return "done";
        }), Check.ARGUMENT.getName());
        book.open(7, 8);
        Check.due("close of (7, 8)", book.close(), 0);
    }

    /** Promise 5, and Terms, "A call that throws changes nothing": the one before is not closed then. */
    private static void openRefusedLeavesTheOneBeforeOpen() {
        Book book = changed();
        for (long[] one : new long[][] {{5, 5}, {4, 0}, {-1, 0}, {6, MOST + 1}}) {
            Check.due("open(" + one[0] + ", " + one[1] + ")", Check.answer(() -> {
                book.open(one[0], one[1]);
                return "done";
            }), Check.ARGUMENT.getName());
            Check.due("moments then", book.moments(), 0);
        }
        Check.due("a value that it has", book.change(0, 1, 4), false);
        Check.due("another change", book.change(1, 2, 8), true);
        Check.due("its close", book.close(), 2);
    }

    /** Promise 6: "An element of a wire gets a value in the open moment: whether it had another one just before." */
    private static void changeAnswersWhetherItHadAnotherOne() {
        Book book = opened();
        Check.due("0, which it has at first", book.change(0, 1, 0), false);
        Check.due("1 behind 0", book.change(0, 1, 1), true);
        Check.due("1 behind 1", book.change(0, 1, 1), false);
        Check.due("8 behind 1", book.change(0, 1, 8), true);
        Check.due("0 behind 8", book.change(0, 1, 0), true);
        Check.due("0 behind 0", book.change(0, 1, 0), false);
        Check.due("4 behind 0", book.change(0, 1, 4), true);
        Check.due("another element of the wire", book.change(0, 0, 4), true);
        Check.due("the same element of another wire", book.change(1, 1, 4), true);
        book.open(5, 6);
        Check.due("4 of the moment before", book.change(0, 1, 4), false);
        Check.due("5 behind that", book.change(0, 1, 5), true);
        Check.due("4 again", book.change(0, 1, 4), true);
        Check.due("4 behind it", book.change(0, 1, 4), false);
        Check.due("0 of an element of no change", book.change(1, 0, 0), false);
        Check.due("close", book.close(), 0);
    }

    /** Promise 6: the least and the greatest wire, element and value. */
    private static void changeTakesTheLeastAndTheGreatest() {
        Book book = Book.ofMany(200, 64);
        book.open(0, 0);
        Check.due("0.0 = 8", book.change(0, 0, 8), true);
        Check.due("0.63 = 8", book.change(0, 63, 8), true);
        Check.due("199.0 = 1", book.change(199, 0, 1), true);
        Check.due("199.63 = 8", book.change(199, 63, 8), true);
        Check.due("0.0 = 0", book.change(0, 0, 0), true);
        Check.due("close", book.close(), 3);
        Check.due("the row", book.row(), "(0, 0) at 0: 0.63=8<0 199.0=1<0 199.63=8<0; "
            + "[3, 3, 0, 248, 7, 199, 1, 1, 0, 248, 7]");
    }

    /** Promise 6: "IndexOutOfBoundsException when there is no such wire". */
    private static void changeRefusesNoWire() {
        for (int wire : new int[] {-1, 2, 3, 199, 200}) {
            Check.refused("change(" + wire + ", 0, 1) of two wires", MomentTest::changed, Check.INDEX,
                x -> x.change(wire, 0, 1));
        }
        for (int wire : Check.FAR) {
            Check.refused("change(" + wire + ", 0, 1)", MomentTest::changed, Check.INDEX, x -> x.change(wire, 0, 1));
        }
        Check.refused("change(200, 0, 1) of 200 wires", () -> Book.ofMany(200, 1).with(0, 0, 199, 0, 1), Check.INDEX,
            x -> x.change(200, 0, 1));
        Check.refused("change(0, 0, 1) of no wires", () -> {
            Book book = Book.of();
            book.open(0, 0);
            return book;
        }, Check.INDEX, x -> x.change(0, 0, 1));
    }

    /** Promise 6: "IndexOutOfBoundsException when there is no such [..] element": each wire has its own width. */
    private static void changeRefusesNoElement() {
        int[][] none = {{0, -1}, {0, 2}, {0, 3}, {0, 63}, {0, 64}, {1, -1}, {1, 3}, {1, 64}};
        for (int[] one : none) {
            Check.refused("change(" + one[0] + ", " + one[1] + ", 1)", MomentTest::changed, Check.INDEX,
                x -> x.change(one[0], one[1], 1));
        }
        for (int element : Check.FAR) {
            Check.refused("change(1, " + element + ", 1)", MomentTest::changed, Check.INDEX,
                x -> x.change(1, element, 1));
        }
        Check.due("the last element of a wire of width 2", opened().change(0, 1, 1), true);
        Check.due("the last element of a wire of width 3", opened().change(1, 2, 1), true);
        Check.refused("the 65th element", () -> Book.of(64, 64).with(0, 0, 0, 63, 1), Check.INDEX,
            x -> x.change(0, 64, 1));
    }

    /** Promise 6: "IllegalArgumentException when there is no such value". */
    private static void changeRefusesNoValue() {
        for (int value : new int[] {-8, -1, 9, 10, 15, 16, 17, 256}) {
            Check.refused("change(0, 1, " + value + ")", MomentTest::changed, Check.ARGUMENT,
                x -> x.change(0, 1, value));
            Check.refused("change(1, 0, " + value + ")", MomentTest::changed, Check.ARGUMENT,
                x -> x.change(1, 0, value));
        }
        for (int value : Check.FAR) {
            Check.refused("change(0, 1, " + value + ")", MomentTest::changed, Check.ARGUMENT,
                x -> x.change(0, 1, value));
        }
    }

    private static Book loaded() {
        Book book = changed().tape(3, 1, 0, 1);
        book.load();
        return book;
    }

    /** Promise 6: "IllegalStateException when no moment is open". */
    private static void changeRefusesWhenNoMomentIsOpen() {
        Check.refused("a change before any moment", () -> Book.of(1), Check.STATE, x -> x.change(0, 0, 1));
        Check.refused("the value that it has, before any moment", () -> Book.of(1), Check.STATE,
            x -> x.change(0, 0, 0));
        Check.refused("a change behind close", MomentTest::closed, Check.STATE, x -> x.change(0, 1, 1));
        Check.refused("the value that it has, behind close", MomentTest::closed, Check.STATE,
            x -> x.change(0, 1, 4));
        Check.refused("a change behind close of no changes", MomentTest::closedWithoutChanges, Check.STATE,
            x -> x.change(0, 1, 1));
        Check.refused("a change behind load", MomentTest::loaded, Check.STATE, x -> x.change(0, 1, 1));
        Book refused = Book.of(1);
        Check.answer(() -> {
            refused.open(0, -1);
            return "done";
        });
        Check.due("a change behind a refused moment", Check.answer(() -> refused.change(0, 0, 1)),
            Check.STATE.getName());
    }

    /** Promise 6, of its three exceptions: the one named first. */
    private static void changeRefusesTheFirstThatIsNamed() {
        Check.refused("no wire and no value", MomentTest::changed, Check.INDEX, x -> x.change(2, 0, 9));
        Check.refused("no element and no value", MomentTest::changed, Check.INDEX, x -> x.change(0, 2, -1));
        Check.refused("no wire when no moment is open", MomentTest::closed, Check.INDEX, x -> x.change(-1, 0, 1));
        Check.refused("no element when no moment is open", MomentTest::closed, Check.INDEX, x -> x.change(0, -1, 1));
        Check.refused("no value when no moment is open", MomentTest::closed, Check.ARGUMENT, x -> x.change(0, 0, 9));
        Check.refused("none of the three", MomentTest::closed, Check.INDEX, x -> x.change(0, 2, 9));
    }

    /** Promise 7: "The open moment is closed: how many changes it had". */
    private static void closeAnswersHowManyChanges() {
        Check.due("close of no changes", opened().close(), 0);
        Check.due("close of one change", changed().close(), 1);
        for (int changes : new int[] {2, 64, 65, 127, 128, 500}) {
            Book book = Book.ofMany(8, 64);
            book.open(0, 0);
            for (int c = 0; c < changes; c++) {
                book.change(c / 64, c % 64, c % 8 + 1);
            }
            Check.due("close of " + changes + " changes", book.close(), changes);
            Check.due("what the row tells of them", book.moment(0, 2), (long) changes);
        }
        Book closed = closed();
        Check.due("moments behind close", closed.moments(), 1);
        Check.due("size behind close", closed.size(), 5);
    }

    /** Promise 7, "how many changes it had": elements of another value, not calls. */
    private static void closeCountsElements() {
        Book twice = changed();
        twice.change(0, 1, 5);
        twice.change(0, 1, 6);
        Check.due("close of one element's three values", twice.close(), 1);
        Book back = changed();
        back.change(0, 0, 1);
        back.change(0, 1, 0);
        Check.due("close of two elements, one taken back", back.close(), 1);
        Book none = changed();
        none.change(0, 1, 0);
        Check.due("close of one element taken back", none.close(), 0);
        Check.due("moments behind it", none.moments(), 0);
        Book same = changed();
        same.open(5, 6);
        same.change(0, 1, 4);
        Check.due("close of a value that it had", same.close(), 0);
        Check.due("moments behind that", same.moments(), 1);
    }

    /** Promise 7: "NONE when none is open". */
    private static void closeWhenNoneIsOpen() {
        Check.due("close before any moment", Book.of(1).close(), TraceBook.NONE);
        Check.due("close behind close", closed().close(), TraceBook.NONE);
        Check.due("close behind close of no changes", closedWithoutChanges().close(), TraceBook.NONE);
        Check.due("close behind load", loaded().close(), TraceBook.NONE);
        Book refused = closed();
        Check.answer(() -> {
            refused.open(5, 5);
            return "done";
        });
        Check.due("close behind a refused moment", refused.close(), TraceBook.NONE);
        Book twice = closed();
        twice.close();
        Check.due("moments behind a close of none", twice.moments(), 1);
        Check.due("size behind a close of none", twice.size(), 5);
    }

    /** Promises 5 to 7 with as many moments as 512 calls can bring: all but the last are closed by open(). */
    private static void asManyMomentsAsCallsCanBring() {
        Book book = Book.of(1);
        for (int m = 0; m < 253; m++) {
            book.with(m / 2, m % 2, 0, 0, m % 8 + 1);
        }
        Check.due("close of the last", book.close(), 1);
        Check.due("moments", book.moments(), 253);
        Check.due("size", book.size(), 126 * 5 + 126 * 4 + 4);
        Check.due("the last one's time", book.moment(252, 0), 126L);
    }
}
