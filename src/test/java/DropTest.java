import java.util.NoSuchElementException;

/** Promise 3: drop. */
public final class DropTest {
    private static final Check check = new Check();

    public static void main(String[] args) {
        EventLog log = fiveEvents();
        log.pack();
        int length = log.count(1);
        check.same("drop(5)", log.drop(5), 0);
        check.same("drop(2)", log.drop(2), 3);
        check.same("count(0)", log.count(0), 2);
        check.same("the log's length", log.count(1), length);
        check.sameEvent(log, 0, Check.CLOCK, 1, 10, 0);
        check.sameEvent(log, 1, Check.CLOCK, 2, 11, 0);
        check.isThrown("event(2, 0)", NoSuchElementException.class, () -> log.event(2, 0));
        refused(log, 3);
        refused(log, -1);
        refused(log, Integer.MIN_VALUE);
        refused(log, Integer.MAX_VALUE);
        check.same("count(0) still", log.count(0), 2);
        check.same("drop(0)", log.drop(0), 2);
        check.same("count(0) at last", log.count(0), 0);
        refused(log, 1);
        droppedOnesAreForgotten();
        check.end();
    }

    private static EventLog fiveEvents() {
        EventLog log = new EventLog();
        for (int i = 0; i < 5; i++) {
            log.add(Check.CLOCK, i + 1, i + 10, 0);
        }
        return log;
    }

    private static void refused(EventLog log, int n) {
        check.isThrown("drop(" + n + ")", IllegalArgumentException.class, () -> log.drop(n));
    }

    /** An entry must not mean an event that is gone. */
    private static void droppedOnesAreForgotten() {
        EventLog log = new EventLog();
        log.add(Check.SWITCH, 1, 1, 0);
        log.add(Check.TYPED, 2, 0x6162, 2);
        log.add(Check.CLOCK, 3, 7, 0);
        check.same("drop(1)", log.drop(1), 2);
        log.add(Check.CLOCK, 3, 7, 0);
        log.add(Check.TYPED, 2, 0x6162, 2);
        check.same("the log", Check.packed(log),
            Check.row(3, 0x10, 1, 0x03, 3, 7, 0x21, 2, 0x61, 0x62));
    }
}
