import java.util.Arrays;
import java.util.NoSuchElementException;

/** Promise 3: drop. */
public final class DropTest {
    private static final int[] FAR = {Integer.MIN_VALUE, Integer.MAX_VALUE};

    private static final Check check = new Check();

    public static void main(String[] args) {
        ordinary();
        everyPlace();
        ofNone();
        ofAll();
        logStays();
        droppedOnesAreForgotten();
        check.end();
    }

    private static Run five() {
        Run run = new Run();
        for (int i = 0; i < 5; i++) {
            run.add(Check.CLOCK, i + 1, i + 10, 0);
        }
        return run;
    }

    private static void refused(Run run, int... ns) {
        for (int n : ns) {
            check.isRefused("drop(" + n + ")", IllegalArgumentException.class, run,
                log -> log.drop(n));
        }
    }

    private static void ordinary() {
        EventLog log = five().made();
        check.same("drop(2)", log.drop(2), 3);
        check.same("count(0)", log.count(0), 2);
        check.sameEvent(log, 0, Check.CLOCK, 1, 10, 0);
        check.sameEvent(log, 1, Check.CLOCK, 2, 11, 0);
        check.isThrown("event(2, 0)", NoSuchElementException.class, () -> log.event(2, 0));
        check.same("at the last c", log.at(Long.MAX_VALUE), 1);
        check.same("drop(2) again", log.drop(2), 0);
        check.same("add", log.add(Check.SWITCH, 9, 1, 0), 3);
        check.sameEvent(log, 2, Check.SWITCH, 9, 1, 0);
        check.same("its sum", log.event(2, 4), 1 + 2 + 9);
    }

    /** "All events from the n-th (from 0) on go: how many." */
    private static void everyPlace() {
        long[] all = five().events();
        for (int n = 0; n <= 5; n++) {
            int place = n;
            check.same("drop(" + n + ") of 5", five().answer(log -> log.drop(place)), 5 - n);
            check.same("what drop(" + n + ") leaves", five().drop(n).events(),
                Arrays.copyOf(all, all.length / 5 * n));
        }
        // "IllegalArgumentException when n is not 0 .. their number."
        refused(five(), -1, 6);
        refused(five(), FAR);
        refused(five().drop(3), 4, 5);
    }

    private static void ofNone() {
        check.same("drop(0) of none", new Run().answer(log -> log.drop(0)), 0);
        check.leavesAll("drop(0) of none", Run.written(1, 2), log -> log.drop(0));
        refused(Run.written(1, 2), -1, 1);
        refused(new Run(), FAR);
    }

    private static void ofAll() {
        check.same("drop(300) of 300", Run.full().answer(log -> log.drop(300)), 0);
        check.leavesAll("drop(300) of 300", Run.full(), log -> log.drop(300));
        check.same("drop(299) of 300", Run.full().answer(log -> log.drop(299)), 1);
        check.same("drop(0) of 300", Run.full().answer(log -> log.drop(0)), 300);
        check.same("what is left", Run.full().drop(0).state(), new Run().state());
        refused(Run.full(), -1, 301);
        refused(Run.full(), FAR);
    }

    /** Events go, and nothing else. */
    private static void logStays() {
        int[] packed = five().pack().bytes();
        check.same("the log behind drop(2)", five().pack().drop(2).bytes(), packed);
        check.same("the log behind drop(0)", five().pack().drop(0).bytes(), packed);
        check.same("read() behind drop(0)", five().pack().drop(0).answer(EventLog::read), 5);
    }

    /** An entry must not mean an event that is gone. */
    private static void droppedOnesAreForgotten() {
        Run run = new Run()
            .add(Check.SWITCH, 1, 1, 0)
            .add(Check.TYPED, 2, 0x6162, 2)
            .add(Check.CLOCK, 3, 7, 0)
            .drop(1)
            .add(Check.CLOCK, 3, 7, 0)
            .add(Check.TYPED, 2, 0x6162, 2)
            .pack();
        check.same("the log", run.bytes(),
            Check.row(3, 0x10, 1, 0x03, 3, 7, 0x21, 2, 0x61, 0x62));
        check.same("the log of the first alone", new Run().add(Check.SWITCH, 0, 1, 0).drop(0)
            .add(Check.SWITCH, 0, 1, 0).pack().bytes(), Check.row(1, 0x18));
    }
}
