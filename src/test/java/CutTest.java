import java.util.Arrays;

/** Promise 8: cut. */
public final class CutTest {
    private static final int[] FAR = {5000, 5001, Integer.MIN_VALUE, Integer.MAX_VALUE};

    private static final Check check = new Check();

    public static void main(String[] args) {
        everyLength();
        ofNone();
        ofTheLongestPacked();
        cutAgain();
        eventsStay();
        check.end();
    }

    private static void refused(Run run, int... ns) {
        for (int n : ns) {
            check.isRefused("cut(" + n + ")", IndexOutOfBoundsException.class, run,
                log -> log.cut(n));
        }
    }

    /** "The log has its first n bytes alone: how many went." */
    private static void everyLength() {
        int[] bytes = {11, 12, 13, 14, 15};
        for (int n = 0; n <= 5; n++) {
            int length = n;
            check.same("cut(" + n + ") of 5", Run.written(bytes).answer(log -> log.cut(length)),
                5 - n);
            check.same("what cut(" + n + ") leaves", Run.written(bytes).cut(n).bytes(),
                Arrays.copyOf(bytes, n));
        }
        // "IndexOutOfBoundsException when n is not 0 .. its length."
        refused(Run.written(bytes), -1, 6);
        refused(Run.written(bytes), FAR);
        refused(Run.some(), -1, 4);
    }

    private static void ofNone() {
        check.same("cut(0) of none", new Run().answer(log -> log.cut(0)), 0);
        check.leavesAll("cut(0) of none", new Run().add(Check.SWITCH, 1, 1, 0), log -> log.cut(0));
        refused(new Run(), -1, 1);
        refused(new Run(), FAR);
    }

    private static void ofTheLongestPacked() {
        Run run = Run.full().pack();
        check.same("cut to all", run.answer(log -> log.cut(Check.LONGEST_PACKED)), 0);
        check.leavesAll("cut to all", run, log -> log.cut(Check.LONGEST_PACKED));
        check.same("cut to all but one", run.answer(log -> log.cut(Check.LONGEST_PACKED - 1)), 1);
        check.same("cut(0)", run.answer(log -> log.cut(0)), Check.LONGEST_PACKED);
        refused(run, -1, Check.LONGEST_PACKED + 1);
        refused(run, FAR);
    }

    private static void cutAgain() {
        Run run = Run.written(1, 2, 3, 4, 5).cut(2);
        check.same("cut(2) again", run.answer(log -> log.cut(2)), 0);
        refused(run, 3, 5);
        check.same("one more", run.poke(2, 9).bytes(), Check.row(1, 2, 9));
    }

    private static void eventsStay() {
        check.same("events", Run.some().cut(0).events(), Run.some().events());
    }
}
