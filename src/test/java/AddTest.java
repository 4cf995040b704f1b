/** Promise 2: add. */
public final class AddTest {
    private static final Check check = new Check();

    public static void main(String[] args) {
        ordinaryEvents();
        edgesOfDifference();
        edgesOfSwitch();
        edgesOfTyped();
        edgesOfSignal();
        edgesOfClock();
        anyRandom();
        noOtherKind();
        secondPartIsNotLookedAt();
        fullRow();
        check.end();
    }

    private static void taken(int kind, long difference, long a, int b) {
        EventLog log = new EventLog();
        String call = "add(" + kind + ", " + difference + ", " + a + ", " + b + ")";
        try {
            check.same(call, log.add(kind, difference, a, b), 1);
        } catch (RuntimeException e) {
            check.isTrue(call + " is taken, but threw " + e, false);
        }
    }

    private static void refused(int kind, long difference, long a, int b) {
        EventLog log = new EventLog();
        log.add(Check.CLOCK, 7, 8, 0);
        String call = "add(" + kind + ", " + difference + ", " + a + ", " + b + ")";
        check.isThrown(call, IllegalArgumentException.class,
            () -> log.add(kind, difference, a, b));
        check.same("count(0) behind " + call, log.count(0), 1);
        check.sameEvent(log, 0, Check.CLOCK, 7, 8, 0);
    }

    private static void ordinaryEvents() {
        EventLog log = new EventLog();
        check.same("add 1", log.add(Check.SWITCH, 10, 3, 0), 1);
        check.same("add 2", log.add(Check.TYPED, 11, 0x616263, 2), 2);
        check.same("add 3", log.add(Check.SIGNAL, 12, 4, 9), 3);
        check.same("add 4", log.add(Check.CLOCK, 13, 1000, 0), 4);
        check.same("add 5", log.add(Check.RANDOM, 14, 5, 0), 5);
        check.sameEvent(log, 0, Check.SWITCH, 10, 3, 0);
        check.sameEvent(log, 1, Check.TYPED, 11, 0x6263, 2);
        check.sameEvent(log, 2, Check.SIGNAL, 12, 4, 9);
        check.sameEvent(log, 3, Check.CLOCK, 13, 1000, 0);
        check.sameEvent(log, 4, Check.RANDOM, 14, 5, 0);
        check.same("the log's length", log.count(1), 0);
    }

    private static void edgesOfDifference() {
        taken(Check.SWITCH, 0, 0, 0);
        taken(Check.SWITCH, Check.FARTHEST, 0, 0);
        for (int kind = 0; kind <= 4; kind++) {
            refused(kind, -1, 1, 1);
            refused(kind, Check.FARTHEST + 1, 1, 1);
            refused(kind, Long.MIN_VALUE, 1, 1);
            refused(kind, Long.MAX_VALUE, 1, 1);
        }
    }

    private static void edgesOfSwitch() {
        taken(Check.SWITCH, 0, 15, 0);
        refused(Check.SWITCH, 0, 16, 0);
        refused(Check.SWITCH, 0, -1, 0);
        refused(Check.SWITCH, 0, 1L << 32, 0);
    }

    private static void edgesOfTyped() {
        taken(Check.TYPED, 0, -1, 1);
        taken(Check.TYPED, 0, Long.MIN_VALUE, 8);
        refused(Check.TYPED, 0, 1, 0);
        refused(Check.TYPED, 0, 1, 9);
        refused(Check.TYPED, 0, 1, -1);
        refused(Check.TYPED, 0, 1, Integer.MIN_VALUE);
    }

    private static void edgesOfSignal() {
        taken(Check.SIGNAL, 0, 0, 1);
        taken(Check.SIGNAL, 0, 15, 31);
        refused(Check.SIGNAL, 0, 0, 0);
        refused(Check.SIGNAL, 0, 0, 32);
        refused(Check.SIGNAL, 0, 0, -1);
        refused(Check.SIGNAL, 0, 16, 1);
        refused(Check.SIGNAL, 0, -1, 1);
    }

    private static void edgesOfClock() {
        taken(Check.CLOCK, 0, 0, 0);
        taken(Check.CLOCK, 0, Check.FARTHEST, 0);
        refused(Check.CLOCK, 0, Check.FARTHEST + 1, 0);
        refused(Check.CLOCK, 0, -1, 0);
    }

    private static void anyRandom() {
        taken(Check.RANDOM, 0, Long.MIN_VALUE, 0);
        taken(Check.RANDOM, 0, Long.MAX_VALUE, 0);
        EventLog log = new EventLog();
        log.add(Check.RANDOM, 0, 0x123456789ABCDEFL, 3);
        check.sameEvent(log, 0, Check.RANDOM, 0, 0x89ABCDEFL, 0);
    }

    private static void noOtherKind() {
        refused(-1, 0, 1, 1);
        refused(5, 0, 1, 1);
        refused(Integer.MIN_VALUE, 0, 1, 1);
        refused(Integer.MAX_VALUE, 0, 1, 1);
    }

    private static void secondPartIsNotLookedAt() {
        for (int b : new int[] {-1, 99, Integer.MIN_VALUE, Integer.MAX_VALUE}) {
            EventLog log = new EventLog();
            check.same("SWITCH with b " + b, log.add(Check.SWITCH, 0, 1, b), 1);
            check.same("CLOCK with b " + b, log.add(Check.CLOCK, 0, 1, b), 2);
            check.same("RANDOM with b " + b, log.add(Check.RANDOM, 0, 1, b), 3);
            for (int k = 0; k < 3; k++) {
                check.same("b of event " + k, log.event(k, 3), 0);
            }
        }
    }

    private static void fullRow() {
        EventLog log = new EventLog();
        for (int i = 1; i <= 300; i++) {
            check.same("add " + i, log.add(Check.CLOCK, 1, i, 0), i);
        }
        check.isThrown("add 301", IllegalStateException.class,
            () -> log.add(Check.CLOCK, 1, 1, 0));
        check.isThrown("add 301, wrong too", IllegalArgumentException.class,
            () -> log.add(Check.CLOCK, -1, 1, 0));
        check.same("count(0)", log.count(0), 300);
        check.same("the last one's a", log.event(299, 2), 300);
        log.drop(299);
        check.same("add again", log.add(Check.CLOCK, 1, 5, 0), 300);
    }
}
