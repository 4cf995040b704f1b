/** Promise 8: cut. */
public final class CutTest {
    private static final Check check = new Check();

    public static void main(String[] args) {
        EventLog log = Check.withLog(1, 2, 3, 4, 5);
        log.add(Check.SWITCH, 0, 0, 0);
        check.same("cut(5)", log.cut(5), 0);
        check.same("cut(2)", log.cut(2), 3);
        check.same("the log", Check.bytes(log), Check.row(1, 2));
        check.isThrown("byteAt(2)", IndexOutOfBoundsException.class, () -> log.byteAt(2));
        refused(log, 3);
        refused(log, -1);
        refused(log, Integer.MIN_VALUE);
        refused(log, Integer.MAX_VALUE);
        check.same("still", Check.bytes(log), Check.row(1, 2));
        log.poke(2, 9);
        check.same("one more", Check.bytes(log), Check.row(1, 2, 9));
        check.same("cut(0)", log.cut(0), 3);
        check.same("count(1)", log.count(1), 0);
        check.same("cut(0) again", log.cut(0), 0);
        refused(log, 1);
        check.same("events", log.count(0), 1);
        check.end();
    }

    private static void refused(EventLog log, int n) {
        check.isThrown("cut(" + n + ")", IndexOutOfBoundsException.class, () -> log.cut(n));
    }
}
