import java.util.NoSuchElementException;

/** Promise 1: no events, an empty log. */
public final class NewObjectTest {
    public static void main(String[] args) {
        Check check = new Check();
        EventLog log = new EventLog();
        check.same("count(0)", log.count(0), 0);
        check.same("count(1)", log.count(1), 0);
        check.isThrown("event(0, 0)", NoSuchElementException.class, () -> log.event(0, 0));
        check.isThrown("byteAt(0)", IndexOutOfBoundsException.class, () -> log.byteAt(0));
        check.same("drop(0)", log.drop(0), 0);
        check.same("cut(0)", log.cut(0), 0);
        check.same("at(0)", log.at(0), -1);
        check.same("read()", log.read(), Check.fault(2, 0));

        EventLog used = new EventLog();
        used.add(Check.SWITCH, 1, 1, 0);
        used.pack();
        EventLog other = new EventLog();
        check.same("count(0) of another one", other.count(0), 0);
        check.same("count(1) of another one", other.count(1), 0);
        check.end();
    }
}
