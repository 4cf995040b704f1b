/** Promise 5: size. */
public final class SizeTest {
    public static void main(String[] args) {
        Check check = new Check();
        EventLog log = Check.withLog(9, 8, 7);
        check.same("size() of no events", log.size(), 1);
        for (int i = 0; i < 300; i++) {
            log.add(i % 5, i % 7 * 100, i % 16, i % 8 + 1);
            if (i % 13 == 0) {
                check.same("the log's length", log.count(1), 3);
                EventLog other = new EventLog();
                for (int k = 0; k <= i; k++) {
                    other.add((int) log.event(k, 0), log.event(k, 1), log.event(k, 2),
                        (int) log.event(k, 3));
                }
                check.same("size() of " + (i + 1), log.size(), other.pack());
            }
        }
        check.same("the log", Check.bytes(log), Check.row(9, 8, 7));
        check.same("events", log.count(0), 300);
        int size = log.size();
        check.same("size() again", log.size(), size);
        check.same("pack()", log.pack(), size);
        check.same("size() behind pack()", log.size(), size);
        check.end();
    }
}
