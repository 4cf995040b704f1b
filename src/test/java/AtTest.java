/** Promise 11: at. */
public final class AtTest {
    public static void main(String[] args) {
        Check check = new Check();
        EventLog log = new EventLog();
        check.same("at(0) of none", log.at(0), -1);
        check.same("at of none", log.at(Long.MAX_VALUE), -1);
        long[] differences = {10, 0, 5, 0, 0, 100};
        for (long difference : differences) {
            log.add(Check.SWITCH, difference, 0, 0);
        }
        long[] sums = {Long.MIN_VALUE, -1, 0, 9, 10, 11, 14, 15, 16, 114, 115, 116, Long.MAX_VALUE};
        int[] due = {-1, -1, -1, -1, 1, 1, 1, 4, 4, 4, 5, 5, 5};
        for (int i = 0; i < sums.length; i++) {
            check.same("at(" + sums[i] + ")", log.at(sums[i]), due[i]);
        }
        log.drop(2);
        check.same("at(115) behind drop(2)", log.at(115), 1);

        EventLog zero = new EventLog();
        zero.add(Check.SWITCH, 0, 0, 0);
        check.same("at(0) with a sum of 0", zero.at(0), 0);
        check.same("at(-1) with a sum of 0", zero.at(-1), -1);

        EventLog far = new EventLog();
        for (int i = 0; i < 300; i++) {
            far.add(Check.SWITCH, Check.FARTHEST, 0, 0);
        }
        check.same("at the last", far.at(300 * Check.FARTHEST), 299);
        check.same("at before the last", far.at(300 * Check.FARTHEST - 1), 298);
        check.end();
    }
}
