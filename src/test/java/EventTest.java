import java.util.NoSuchElementException;

/** Promise 10: event. */
public final class EventTest {
    private static final Check check = new Check();

    public static void main(String[] args) {
        parts();
        typedBytes();
        sums();
        wrongCalls();
        check.end();
    }

    private static void parts() {
        EventLog log = new EventLog();
        log.add(Check.SWITCH, 3, 15, 9);
        log.add(Check.TYPED, 4, 0x4142, 2);
        log.add(Check.SIGNAL, 5, 14, 31);
        log.add(Check.CLOCK, 6, Check.FARTHEST, 9);
        log.add(Check.RANDOM, 7, -1, 9);
        check.sameEvent(log, 0, Check.SWITCH, 3, 15, 0);
        check.sameEvent(log, 1, Check.TYPED, 4, 0x4142, 2);
        check.sameEvent(log, 2, Check.SIGNAL, 5, 14, 31);
        check.sameEvent(log, 3, Check.CLOCK, 6, Check.FARTHEST, 0);
        check.sameEvent(log, 4, Check.RANDOM, 7, 4294967295L, 0);
    }

    private static void typedBytes() {
        long[] due = {0xF8L, 0xF7F8L, 0xF6F7F8L, 0xF5F6F7F8L, 0xF4F5F6F7F8L, 0xF3F4F5F6F7F8L,
            0xF2F3F4F5F6F7F8L, 0xF1F2F3F4F5F6F7F8L};
        EventLog log = new EventLog();
        for (int b = 1; b <= 8; b++) {
            log.add(Check.TYPED, 0, 0xF1F2F3F4F5F6F7F8L, b);
            check.sameEvent(log, b - 1, Check.TYPED, 0, due[b - 1], b);
        }
    }

    private static void sums() {
        EventLog log = new EventLog();
        long sum = 0;
        for (int k = 0; k < 300; k++) {
            long difference = Check.FARTHEST - k % 5;
            sum += difference;
            log.add(k % 5, difference, 1, 1);
            check.same("event(" + k + ", 4)", log.event(k, 4), sum);
        }
        check.same("event(0, 4)", log.event(0, 4), Check.FARTHEST);
        check.same("event(1, 4)", log.event(1, 4), 2 * Check.FARTHEST - 1);
    }

    private static void wrongCalls() {
        EventLog log = new EventLog();
        log.add(Check.SWITCH, 3, 15, 0);
        for (int k : new int[] {1, -1, 300, Integer.MIN_VALUE, Integer.MAX_VALUE}) {
            for (int what : new int[] {0, 4, 5, -1}) {
                check.isThrown("event(" + k + ", " + what + ")", NoSuchElementException.class,
                    () -> log.event(k, what));
            }
        }
        for (int what : new int[] {5, -1, Integer.MIN_VALUE, Integer.MAX_VALUE}) {
            check.isThrown("event(0, " + what + ")", IllegalArgumentException.class,
                () -> log.event(0, what));
        }
    }
}
