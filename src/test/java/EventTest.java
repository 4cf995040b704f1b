import java.util.NoSuchElementException;

/** Promise 10: event. */
public final class EventTest {
    private static final int[] WHATS = {0, 1, 2, 3, 4, 5, -1, Integer.MIN_VALUE, Integer.MAX_VALUE};

    private static final Check check = new Check();

    public static void main(String[] args) {
        parts();
        typedWithoutOtherBits();
        randomWords();
        sums();
        sumsUpToTheFarthest();
        noSuchEvent();
        noSuchEventOfNone();
        noSuchEventOfThreeHundred();
        otherWhats();
        nothingChanges();
        check.end();
    }

    /** "what = 0 its kind, 1 its difference, 2 a, 3 b as in add [..]; b 0 where it isn't named". */
    private static void parts() {
        EventLog log = new EventLog();
        log.add(Check.SWITCH, 3, 15, 9);
        log.add(Check.TYPED, 4, 0x4142, 2);
        log.add(Check.SIGNAL, 5, 14, 31);
        log.add(Check.CLOCK, 6, Check.FARTHEST, 9);
        log.add(Check.RANDOM, 7, -1, 9);
        check.sameEvent(log, 0, Check.SWITCH, 3, 15, 0);
        check.sameEvent(log, 1, Check.TYPED, 4, 0x4142, 2);
        check.sameEvent(log, 2, Check.SIGNAL, 5, 14, 31);
        check.sameEvent(log, 3, Check.CLOCK, 6, Check.FARTHEST, 0);
        check.sameEvent(log, 4, Check.RANDOM, 7, 4294967295L, 0);
    }

    /** "TYPED: a without other bits". */
    private static void typedWithoutOtherBits() {
        long[] due = {0xF8L, 0xF7F8L, 0xF6F7F8L, 0xF5F6F7F8L, 0xF4F5F6F7F8L, 0xF3F4F5F6F7F8L,
            0xF2F3F4F5F6F7F8L, 0xF1F2F3F4F5F6F7F8L};
        EventLog log = new EventLog();
        for (int b = 1; b <= 8; b++) {
            log.add(Check.TYPED, 0, 0xF1F2F3F4F5F6F7F8L, b);
            check.sameEvent(log, b - 1, Check.TYPED, 0, due[b - 1], b);
        }
    }

    /** "RANDOM 0 .. 2^32 - 1". */
    private static void randomWords() {
        long[] given = {0, 0x7FFFFFFFL, 0x80000000L, 0xFFFFFFFFL, 0x100000000L, -1, Long.MIN_VALUE,
            Long.MAX_VALUE};
        long[] due = {0, 0x7FFFFFFFL, 0x80000000L, 0xFFFFFFFFL, 0, 0xFFFFFFFFL, 0, 0xFFFFFFFFL};
        for (int i = 0; i < given.length; i++) {
            long a = given[i];
            check.same("a of RANDOM " + a,
                new Run().add(Check.RANDOM, 0, a, 0).answer(log -> log.event(0, 2)), due[i]);
        }
    }

    /** "the sum of all differences up to it". */
    private static void sums() {
        Run run = new Run();
        long[] differences = {0, 5, 0, 0, 7, 1};
        long[] due = {0, 5, 5, 5, 12, 13};
        for (long difference : differences) {
            run.add(Check.SWITCH, difference, 1, 0);
        }
        for (int k = 0; k < due.length; k++) {
            int asked = k;
            check.same("event(" + k + ", 4)", run.answer(log -> log.event(asked, 4)), due[k]);
        }
        check.same("the last sum behind drop(5)", run.drop(5).answer(log -> log.event(4, 4)), 12);
        check.same("a sum behind drop(4) and add", run.drop(4).add(Check.SWITCH, 100, 1, 0)
            .answer(log -> log.event(4, 4)), 105);
    }

    private static void sumsUpToTheFarthest() {
        Run run = new Run().addTimes(300, Check.SWITCH, Check.FARTHEST, 1, 0);
        EventLog log = run.made();
        for (int k = 100; k < 300; k++) {
            check.same("event(" + k + ", 4)", log.event(k, 4), (k + 1) * Check.FARTHEST);
        }
        check.same("event(0, 4)", run.answer(first -> first.event(0, 4)), Check.FARTHEST);
    }

    private static void refused(Class<? extends RuntimeException> due, Run run, int k, int what) {
        check.isRefused("event(" + k + ", " + what + ")", due, run, log -> log.event(k, what));
    }

    /** "NoSuchElementException when there is none; else": also for another what. */
    private static void noSuchEvent() {
        for (int what : WHATS) {
            for (int k : new int[] {-1, 5, 299, 300, Integer.MIN_VALUE, Integer.MAX_VALUE}) {
                refused(NoSuchElementException.class, Run.some(), k, what);
            }
            // An event that was there once is none.
            refused(NoSuchElementException.class, Run.some().drop(4), 4, what);
        }
        check.same("event(4, 0)", Run.some().answer(log -> log.event(4, 0)), Check.RANDOM);
    }

    private static void noSuchEventOfNone() {
        for (int what : WHATS) {
            for (int k : new int[] {-1, 0, 1}) {
                refused(NoSuchElementException.class, new Run(), k, what);
            }
        }
    }

    private static void noSuchEventOfThreeHundred() {
        check.same("event(299, 2)", Run.full().answer(log -> log.event(299, 2)), 299);
        for (int what : WHATS) {
            for (int k : new int[] {-1, 300, 301}) {
                refused(NoSuchElementException.class, Run.full(), k, what);
            }
        }
    }

    /** "else IllegalArgumentException for another what." */
    private static void otherWhats() {
        for (int k = 0; k < 5; k++) {
            for (int what : new int[] {-1, 5, 6, 256, Integer.MIN_VALUE, Integer.MAX_VALUE}) {
                refused(IllegalArgumentException.class, Run.some(), k, what);
            }
        }
        refused(IllegalArgumentException.class, Run.full(), 0, 5);
        refused(IllegalArgumentException.class, Run.full(), 299, -1);
    }

    private static void nothingChanges() {
        for (int what = 0; what <= 4; what++) {
            int asked = what;
            check.leavesAll("event(1, " + what + ")", Run.some(), log -> log.event(1, asked));
        }
    }
}
