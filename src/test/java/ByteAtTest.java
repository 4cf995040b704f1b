/** Promise 9: byteAt. */
public final class ByteAtTest {
    private static final Check check = new Check();

    public static void main(String[] args) {
        EventLog log = Check.withLog(0, 127, 128, 255);
        check.same("byteAt(0)", log.byteAt(0), 0);
        check.same("byteAt(1)", log.byteAt(1), 127);
        check.same("byteAt(2)", log.byteAt(2), 128);
        check.same("byteAt(3)", log.byteAt(3), 255);
        refused(log, 4);
        refused(log, -1);
        refused(log, 5000);
        refused(log, Integer.MIN_VALUE);
        refused(log, Integer.MAX_VALUE);
        check.same("count(1)", log.count(1), 4);
        check.end();
    }

    private static void refused(EventLog log, int i) {
        check.isThrown("byteAt(" + i + ")", IndexOutOfBoundsException.class, () -> log.byteAt(i));
    }
}
