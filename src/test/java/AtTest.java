/** Promise 11: at. */
public final class AtTest {
    private static final Check check = new Check();

    public static void main(String[] args) {
        ordinary();
        ofNone();
        firstSum();
        likeSums();
        upToTheFarthest();
        followsTheEvents();
        nothingChanges();
        check.end();
    }

    private static Run with(long... differences) {
        Run run = new Run();
        for (long difference : differences) {
            run.add(Check.SWITCH, difference, 0, 0);
        }
        return run;
    }

    private static void due(Run run, long c, int k) {
        check.same("at(" + c + ")", run.answer(log -> log.at(c)), k);
    }

    /** "The k of the event in whose place a sum of differences c falls". */
    private static void ordinary() {
        Run run = with(10, 20, 5);
        long[] sums = {9, 10, 11, 29, 30, 31, 34, 35, 36};
        int[] due = {-1, 0, 0, 0, 1, 1, 1, 2, 2};
        for (int i = 0; i < sums.length; i++) {
            due(run, sums[i], due[i]);
        }
    }

    /** "-1 when there is none." */
    private static void ofNone() {
        for (long c : new long[] {Long.MIN_VALUE, -1, 0, 1, Long.MAX_VALUE}) {
            due(new Run(), c, -1);
            due(with(1, 2).drop(0), c, -1);
        }
    }

    private static void firstSum() {
        due(with(0), -1, -1);
        due(with(0), 0, 0);
        due(with(1), 0, -1);
        due(with(1), 1, 0);
        for (Run run : new Run[] {with(0), with(1), with(Check.FARTHEST)}) {
            due(run, Long.MIN_VALUE, -1);
            due(run, -1, -1);
            due(run, Long.MAX_VALUE, 0);
        }
        due(with(Check.FARTHEST), Check.FARTHEST - 1, -1);
        due(with(Check.FARTHEST), Check.FARTHEST, 0);
    }

    /** "the last one whose sum is at most c". */
    private static void likeSums() {
        Run run = with(10, 0, 5, 0, 0, 100);
        long[] sums = {9, 10, 11, 14, 15, 16, 114, 115, 116};
        int[] due = {-1, 1, 1, 1, 4, 4, 4, 5, 5};
        for (int i = 0; i < sums.length; i++) {
            due(run, sums[i], due[i]);
        }
        Run zeros = new Run().addTimes(300, Check.SWITCH, 0, 0, 0);
        due(zeros, -1, -1);
        due(zeros, 0, 299);
    }

    private static void upToTheFarthest() {
        Run run = new Run().addTimes(300, Check.SWITCH, Check.FARTHEST, 0, 0);
        for (int k : new int[] {0, 1, 149, 298, 299}) {
            long sum = (k + 1) * Check.FARTHEST;
            due(run, sum - 1, k - 1);
            due(run, sum, k);
            due(run, sum + 1, k);
        }
        due(run, Long.MAX_VALUE, 299);
        due(run, Long.MIN_VALUE, -1);
    }

    private static void followsTheEvents() {
        due(with(10, 20, 5).drop(2), Long.MAX_VALUE, 1);
        due(with(10, 20, 5).drop(1).add(Check.CLOCK, 3, 3, 0), 12, 0);
        due(with(10, 20, 5).drop(1).add(Check.CLOCK, 3, 3, 0), 13, 1);
        due(with(10, 20, 5).write(2, 0x10, 4, 0x28).read(), 7, 0);
        due(with(10, 20, 5).write(2, 0x10, 4, 0x28).read(), 8, 1);
    }

    private static void nothingChanges() {
        for (long c : new long[] {-1, 0, 7, Long.MAX_VALUE}) {
            check.leavesAll("at(" + c + ")", Run.some(), log -> log.at(c));
        }
    }
}
