import java.util.NoSuchElementException;

/** Promise 1: a new object. */
public final class NewObjectTest {
    private static final Check check = new Check();

    public static void main(String[] args) {
        noEvents();
        emptyLog();
        nothingOfAnotherObject();
        check.end();
    }

    /** "No events". */
    private static void noEvents() {
        Run run = new Run();
        check.same("the counts", run.counts(), new long[] {0, 0, 0, 0, 0, 0});
        check.same("at(0)", run.answer(log -> log.at(0)), -1);
        check.same("at the last c", run.answer(log -> log.at(Long.MAX_VALUE)), -1);
        check.same("drop(0)", run.answer(log -> log.drop(0)), 0);
        check.same("size()", run.answer(EventLog::size), 1);
        check.same("the packed log", new Run().pack().bytes(), Check.row(0));
        check.isRefused("drop(1)", IllegalArgumentException.class, run, log -> log.drop(1));
        for (int what = 0; what <= 4; what++) {
            int asked = what;
            check.isRefused("event(0, " + what + ")", NoSuchElementException.class, run,
                log -> log.event(0, asked));
        }
    }

    /** "an empty log". */
    private static void emptyLog() {
        Run run = new Run();
        check.same("cut(0)", run.answer(log -> log.cut(0)), 0);
        check.same("read()", run.answer(EventLog::read), Check.fault(2, 0));
        check.leavesAll("read()", run, EventLog::read);
        check.isRefused("byteAt(0)", IndexOutOfBoundsException.class, run, log -> log.byteAt(0));
        check.isRefused("cut(1)", IndexOutOfBoundsException.class, run, log -> log.cut(1));
        check.isRefused("poke(1, 0)", IndexOutOfBoundsException.class, run, log -> log.poke(1, 0));
        check.same("the log behind poke(0, 9)", new Run().poke(0, 9).bytes(), Check.row(9));
    }

    private static void nothingOfAnotherObject() {
        EventLog older = new EventLog();
        EventLog used = new EventLog();
        used.add(Check.SWITCH, 1, 1, 0);
        used.pack();
        check.same("count(0) of an older one", older.count(0), 0);
        check.same("count(1) of an older one", older.count(1), 0);
        EventLog newer = new EventLog();
        check.same("count(0) of a newer one", newer.count(0), 0);
        check.same("count(1) of a newer one", newer.count(1), 0);
        check.same("count(0) of the used one", used.count(0), 1);
        check.same("count(1) of the used one", used.count(1), 3);
    }
}
