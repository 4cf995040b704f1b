/** Promise 12: count. */
public final class CountTest {
    private static final Check check = new Check();

    public static void main(String[] args) {
        EventLog log = Check.withLog(1, 2, 3, 4, 5, 6, 7);
        due(log, 0, 7, 0, 0, 0, 0);
        log.add(Check.SWITCH, 0, 1, 0);
        due(log, 1, 7, 1, 0, 1, 0);
        log.add(Check.SWITCH, 0, 1, 0);
        due(log, 2, 7, 2, 1, 1, 0);
        log.add(Check.SWITCH, 0, 1, 0);
        due(log, 3, 7, 2, 1, 1, 0);
        log.add(Check.TYPED, 4, 0x4142, 2);
        due(log, 4, 7, 3, 1, 1, 0);
        log.add(Check.TYPED, 5, 0x4142, 2);
        due(log, 5, 7, 4, 1, 1, 1);
        log.add(Check.CLOCK, 5, 1, 0);
        due(log, 6, 7, 5, 1, 2, 1);
        log.add(Check.TYPED, 5, 0x4142, 2);
        due(log, 7, 7, 6, 1, 3, 2);
        log.add(Check.TYPED, 5, 0x4142, 2);
        due(log, 8, 7, 7, 2, 3, 2);
        log.add(Check.TYPED, 6, 0x43, 1);
        log.add(Check.TYPED, 7, 0x43, 1);
        due(log, 10, 7, 9, 2, 3, 2);
        check.same("the log", Check.bytes(log), Check.row(1, 2, 3, 4, 5, 6, 7));
        int length = log.pack();
        due(log, 10, length, 9, 2, 3, 2);
        log.cut(3);
        due(log, 10, 3, 9, 2, 3, 2);
        log.drop(3);
        due(log, 3, 3, 2, 1, 1, 0);
        whatPackWouldGive();
        check.end();
    }

    private static void due(EventLog log, int... counts) {
        for (int what = 0; what < counts.length; what++) {
            check.same("count(" + what + ")", log.count(what), counts[what]);
        }
        for (int what : new int[] {-1, 6, Integer.MIN_VALUE, Integer.MAX_VALUE}) {
            check.same("count(" + what + ")", log.count(what), -1);
        }
    }

    /** The log that was read may have more entries than packing would give. */
    private static void whatPackWouldGive() {
        EventLog log = Check.withLog(4, 0x10, 0, 0x10, 0, 0x18, 0x19, 0x41);
        log.read();
        due(log, 4, 8, 3, 1, 2, 0);
    }
}
