/** Promise 7: poke. */
public final class PokeTest {
    private static final Check check = new Check();

    public static void main(String[] args) {
        EventLog log = Check.withLog(5, 0, 255);
        log.poke(1, 200);
        check.same("the log", Check.bytes(log), Check.row(5, 200, 255));
        log.poke(3, 0);
        check.same("one more", Check.bytes(log), Check.row(5, 200, 255, 0));
        log.poke(0, 255);
        log.poke(3, 1);
        check.same("first and last", Check.bytes(log), Check.row(255, 200, 255, 1));
        wrongCalls(log);
        check.same("nothing changed", Check.bytes(log), Check.row(255, 200, 255, 1));
        check.same("events", log.count(0), 0);
        fullLog();
        check.end();
    }

    private static void wrongCalls(EventLog log) {
        refused(log, IllegalArgumentException.class, 0, -1);
        refused(log, IllegalArgumentException.class, 0, 256);
        refused(log, IllegalArgumentException.class, 9, 256);
        refused(log, IllegalArgumentException.class, -1, Integer.MIN_VALUE);
        refused(log, IllegalArgumentException.class, 0, Integer.MAX_VALUE);
        refused(log, IndexOutOfBoundsException.class, 5, 1);
        refused(log, IndexOutOfBoundsException.class, -1, 1);
        refused(log, IndexOutOfBoundsException.class, 5000, 1);
        refused(log, IndexOutOfBoundsException.class, Integer.MAX_VALUE, 1);
        refused(log, IndexOutOfBoundsException.class, Integer.MIN_VALUE, 1);
    }

    private static void refused(EventLog log, Class<? extends RuntimeException> due, int i, int b) {
        check.isThrown("poke(" + i + ", " + b + ")", due, () -> log.poke(i, b));
    }

    /** Takes more calls than are promised: no fewer can fill the log. */
    private static void fullLog() {
        EventLog log = new EventLog();
        for (int i = 0; i < 5000; i++) {
            log.poke(i, i % 256);
        }
        check.same("a full log", log.count(1), 5000);
        refused(log, IllegalStateException.class, 5000, 1);
        refused(log, IllegalArgumentException.class, 5000, 256);
        refused(log, IndexOutOfBoundsException.class, 5001, 1);
        log.poke(4999, 77);
        check.same("the last byte", log.byteAt(4999), 77);
        check.same("still full", log.count(1), 5000);
    }
}
