/** Promise 12: count. */
public final class CountTest {
    private static final int[] OTHERS = {-1, 6, 7, 256, Integer.MIN_VALUE, Integer.MAX_VALUE};

    private static final Check check = new Check();

    public static void main(String[] args) {
        oneByOne();
        eachCount();
        ofNone();
        ofThreeHundred();
        whatPackWouldGive();
        others();
        nothingChanges();
        check.end();
    }

    private static void due(String what, Run run, long... counts) {
        check.same("the counts of " + what, run.counts(), counts);
    }

    /**
     * "what = 0 events, 1 bytes of the log, 2 entries that pack() would give, 3 of these RUNs,
     * 4 SAME ones, 5 TYPED ones with k".
     */
    private static void oneByOne() {
        Run run = Run.written(1, 2, 3, 4, 5, 6, 7);
        due("a log alone", run, 0, 7, 0, 0, 0, 0);
        due("a first one", run.add(Check.SWITCH, 0, 1, 0), 1, 7, 1, 0, 1, 0);
        due("it again", run.add(Check.SWITCH, 0, 1, 0), 2, 7, 2, 1, 1, 0);
        due("a third time", run.add(Check.SWITCH, 0, 1, 0), 3, 7, 2, 1, 1, 0);
        due("TYPED", run.add(Check.TYPED, 4, 0x4142, 2), 4, 7, 3, 1, 1, 0);
        due("TYPED with k", run.add(Check.TYPED, 5, 0x4142, 2), 5, 7, 4, 1, 1, 1);
        due("SAME", run.add(Check.CLOCK, 5, 1, 0), 6, 7, 5, 1, 2, 1);
        due("SAME with k", run.add(Check.TYPED, 5, 0x4142, 2), 7, 7, 6, 1, 3, 2);
        due("another run", run.add(Check.TYPED, 5, 0x4142, 2), 8, 7, 7, 2, 3, 2);
        due("one byte", run.add(Check.TYPED, 6, 0x43, 1), 9, 7, 8, 2, 3, 2);
        due("one byte again", run.add(Check.TYPED, 7, 0x43, 1), 10, 7, 9, 2, 3, 2);
        int length = (int) run.answer(EventLog::size);
        due("all packed", run.pack(), 10, length, 9, 2, 3, 2);
        due("a shorter log", run.cut(3), 10, 3, 9, 2, 3, 2);
        due("the first three", run.drop(3), 3, 3, 2, 1, 1, 0);
    }

    private static void eachCount() {
        due("a first difference of 1", new Run().add(Check.SWITCH, 1, 1, 0), 1, 0, 1, 0, 0, 0);
        due("two runs", new Run().addTimes(16, Check.SWITCH, 0, 1, 0)
            .addTimes(17, Check.SWITCH, 0, 2, 0), 33, 0, 4, 2, 2, 0);
        due("a run of TYPED", new Run().addTimes(3, Check.TYPED, 1, 0x4142, 2), 3, 0, 2, 1, 0, 0);
        due("k 20", far(19), 21, 0, 21, 0, 20, 1);
        due("k 21", far(20), 22, 0, 22, 0, 21, 0);
    }

    private static Run far(int between) {
        Run run = new Run().add(Check.TYPED, 0, 0x4142, 2);
        for (int i = 0; i < between; i++) {
            run.add(Check.TYPED, 0, i, 1);
        }
        return run.add(Check.TYPED, 1, 0x4142, 2);
    }

    private static void ofNone() {
        due("a new object", new Run(), 0, 0, 0, 0, 0, 0);
        due("no events packed", new Run().pack(), 0, 1, 0, 0, 0, 0);
        due("some, all dropped and cut", Run.some().drop(0).cut(0), 0, 0, 0, 0, 0, 0);
    }

    private static void ofThreeHundred() {
        due("300 of the longest", Run.full().pack(), 300, Check.LONGEST_PACKED, 300, 0, 0, 0);
        due("300 alike", new Run().addTimes(300, Check.SWITCH, 0, 1, 0), 300, 0, 2, 1, 1, 0);
        Run again = new Run();
        for (int i = 0; i < 300; i++) {
            again.add(Check.TYPED, i % 2, 0x4142, 2);
        }
        due("300 with k", again, 300, 0, 300, 0, 1, 299);
    }

    /** The log that was read may have more entries than packing would give. */
    private static void whatPackWouldGive() {
        due("a long form", Run.written(4, 0x10, 0, 0x10, 0, 0x18, 0x19, 0x41).read(),
            4, 8, 3, 1, 2, 0);
    }

    /** "-1 for others." */
    private static void others() {
        for (int what : OTHERS) {
            for (Run run : new Run[] {new Run(), Run.some(), Run.full().pack()}) {
                check.same("count(" + what + ")", run.answer(log -> log.count(what)), -1);
            }
        }
    }

    private static void nothingChanges() {
        for (int what = -1; what <= 6; what++) {
            int asked = what;
            for (Run run : new Run[] {new Run(), Run.some(), Run.full().pack()}) {
                check.leavesAll("count(" + what + ")", run, log -> log.count(asked));
            }
        }
    }
}
