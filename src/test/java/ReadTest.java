/** Promise 6: read, of logs that have no fault; FaultTest has the others. */
public final class ReadTest {
    private static final Check check = new Check();

    public static void main(String[] args) {
        eachKind();
        everyForm();
        firstDifference();
        edgesOfWhatIsBrought();
        numbersOfEvents();
        runsUpToTheLastEvent();
        runsAreEvents();
        readsBackWhatIsPacked();
        eventsAreReplaced();
        logStays();
        earlierReadsAreForgotten();
        check.end();
    }

    private static void due(int answer, int... bytes) {
        check.same("read()", Run.written(bytes).answer(EventLog::read), answer);
    }

    /** "Reads the log". */
    private static void eachKind() {
        EventLog log = Check.withLog(6,
            0xF0, 1,
            0x81, 2, 0xFF, 2, 3, 4, 5, 6, 7, 8,
            0x21, 3, 0xFF, 0,
            0x92, 4, 31,
            0x03, 5, 0xAC, 2,
            0x04, 6, 0xA1, 0xB2, 0xC3, 0xD4);
        check.same("read()", log.read(), 6);
        check.same("count(0)", log.count(0), 6);
        check.sameEvent(log, 0, Check.SWITCH, 1, 15, 0);
        check.sameEvent(log, 1, Check.TYPED, 2, 0xFF02030405060708L, 8);
        check.sameEvent(log, 2, Check.TYPED, 3, 0xFF00, 2);
        check.sameEvent(log, 3, Check.SIGNAL, 4, 9, 31);
        check.sameEvent(log, 4, Check.CLOCK, 5, 300, 0);
        check.sameEvent(log, 5, Check.RANDOM, 6, 0xA1B2C3D4L, 0);
    }

    /** The grammar allows more than packing writes. */
    private static void everyForm() {
        EventLog log = Check.withLog(12,
            0x18,
            0x10, 0,
            0x05, 1,
            0x11, 7, 0x41,
            0x09, 1,
            0x21, 7, 0x42, 0x43,
            0x15,
            0x01, 8, 3,
            0x03, 7, 9,
            0x03, 7, 9,
            0x1B,
            0x10, 7);
        check.same("read() of every form", log.read(), 12);
        check.sameEvent(log, 0, Check.SWITCH, 0, 1, 0);
        check.sameEvent(log, 1, Check.SWITCH, 0, 1, 0);
        check.sameEvent(log, 2, Check.SWITCH, 0, 1, 0);
        check.sameEvent(log, 3, Check.TYPED, 7, 0x41, 1);
        check.sameEvent(log, 4, Check.TYPED, 7, 0x41, 1);
        check.sameEvent(log, 5, Check.TYPED, 7, 0x4243, 2);
        check.sameEvent(log, 6, Check.TYPED, 7, 0x4243, 2);
        check.sameEvent(log, 7, Check.TYPED, 8, 0x41, 1);
        check.sameEvent(log, 8, Check.CLOCK, 7, 9, 0);
        check.sameEvent(log, 9, Check.CLOCK, 7, 9, 0);
        check.sameEvent(log, 10, Check.CLOCK, 7, 9, 0);
        check.sameEvent(log, 11, Check.SWITCH, 7, 1, 0);
    }

    /** SAME is "0 for the first event", and a difference of 0 may be written out too. */
    private static void firstDifference() {
        long[] zero = new Run().add(Check.SWITCH, 0, 3, 0).events();
        check.same("SAME as the first", Run.written(1, 0x38).read().events(), zero);
        check.same("0 as the first", Run.written(1, 0x30, 0).read().events(), zero);
        // The events that were there have no part in it.
        check.same("SAME as the first, over others",
            new Run().add(Check.SWITCH, 9, 1, 0).write(1, 0x38).read().events(), zero);
        check.same("SAME as the first, over one read",
            Run.written(1, 0x30, 9).read().write(1, 0x38).read().events(), zero);
    }

    private static void edgesOfWhatIsBrought() {
        for (int x = 0; x <= 15; x++) {
            check.sameEvent(Run.written(1, 16 * x + 8).read().made(), 0, Check.SWITCH, 0, x, 0);
            for (int number : new int[] {1, 31}) {
                check.sameEvent(Run.written(1, 16 * x + 10, number).read().made(), 0,
                    Check.SIGNAL, 0, x, number);
            }
        }
        for (int x = 1; x <= 8; x++) {
            int[] zeros = new int[x];
            int[] highest = new int[x];
            highest[0] = 255;
            check.sameEvent(Run.written(Check.joined(Check.row(1, 16 * x + 9), zeros)).read()
                .made(), 0, Check.TYPED, 0, 0, x);
            check.sameEvent(Run.written(Check.joined(Check.row(1, 16 * x + 9), highest)).read()
                .made(), 0, Check.TYPED, 0, 255L << (8 * x - 8), x);
        }
        check.sameEvent(Run.written(1, 0x0C, 255, 255, 255, 255).read().made(), 0,
            Check.RANDOM, 0, 0xFFFFFFFFL, 0);
        check.sameEvent(Run.written(1, 0x0C, 0, 0, 0, 0).read().made(), 0, Check.RANDOM, 0, 0, 0);
        check.sameEvent(Run.written(1, 0x0C, 128, 0, 0, 0).read().made(), 0,
            Check.RANDOM, 0, 0x80000000L, 0);
    }

    /** "how many events": from none to 300. */
    private static void numbersOfEvents() {
        due(0, 0);
        due(1, 1, 0x18);
        due(127, 127, 0x18, 0x05, 126);
        due(128, 128, 1, 0x18, 0x05, 127);
        due(299, 0xAB, 2, 0x18, 0x05, 0xAA, 2);
        due(300, 0xAC, 2, 0x18, 0x05, 0xAB, 2);
        Run one = new Run();
        int[] heads = new int[300];
        for (int i = 0; i < 300; i++) {
            heads[i] = i % 2 == 0 ? 0x18 : 0x28;
            one.add(Check.SWITCH, 0, i % 2 + 1, 0);
        }
        Run each = Run.written(Check.joined(Check.row(0xAC, 2), heads));
        check.same("read() of 300 entries", each.answer(EventLog::read), 300);
        check.same("the events of 300 entries", each.read().events(), one.events());
    }

    private static void runsUpToTheLastEvent() {
        for (int n = 1; n <= 15; n++) {
            due(n + 1, n + 1, 0x18, 16 * n + 5);
            check.same("the events of a run of " + n,
                Run.written(n + 1, 0x10, 4, 16 * n + 5).read().events(),
                new Run().addTimes(n + 1, Check.SWITCH, 4, 1, 0).events());
        }
        due(31, 31, 0x18, 0xF5, 0xF5);
        due(300, 0xAC, 2, 0x18, 0x05, 0xAA, 2, 0x15);
    }

    /** What a RUN brings is an event before for each entry behind it. */
    private static void runsAreEvents() {
        due(4, 4, 0x19, 0x41, 0x15, 0x09, 2, 0x18);
        Run typed = Run.written(4, 0x29, 0x41, 0x42, 0x19, 0x43, 0x15, 0x09, 3).read();
        check.sameEvent(typed.made(), 3, Check.TYPED, 0, 0x4142, 2);
        Run clock = Run.written(4, 0x03, 2, 9, 0x15, 0x18, 0x1B).read();
        check.sameEvent(clock.made(), 3, Check.CLOCK, 2, 9, 0);
        Run same = Run.written(4, 0x10, 7, 0x25, 0x28).read();
        check.sameEvent(same.made(), 3, Check.SWITCH, 7, 2, 0);
        Run again = Run.written(4, 0x29, 0x41, 0x42, 0x09, 1, 0x25).read();
        check.sameEvent(again.made(), 3, Check.TYPED, 0, 0x4142, 2);
    }

    private static void readsBackWhatIsPacked() {
        Run mixed = new Run();
        for (int i = 0; i < 300; i++) {
            mixed.add(i / 2 % 5, i / 2 % 3 * 1000L, i % 16, i % 8 + 1);
        }
        for (Run run : new Run[] {new Run(), Run.some(), mixed, Run.full()}) {
            long[] due = run.events();
            run.pack().drop(0);
            check.same("read() behind pack()", run.answer(EventLog::read), due.length / 5);
            check.same("the events behind read()", run.read().events(), due);
        }
    }

    /** "which take the place of those that were there". */
    private static void eventsAreReplaced() {
        long[] two = new Run().add(Check.SWITCH, 0, 1, 0).add(Check.SWITCH, 0, 2, 0).events();
        check.same("over some", Run.some().read().events(), two);
        check.same("over 300", Run.full().write(2, 0x18, 0x28).read().events(), two);
        check.same("over none", Run.written(2, 0x18, 0x28).read().events(), two);
        check.same("twice", Run.some().read().read().events(), two);
        check.same("none over 300", Run.full().write(0).read().state(), Run.written(0).state());
        check.same("add behind read()",
            Run.some().read().answer(log -> log.add(Check.SWITCH, 1, 3, 0)), 3);
    }

    /** The events are what changes, and nothing else. */
    private static void logStays() {
        check.same("the log behind read()", Run.some().read().bytes(), Check.row(2, 0x18, 0x28));
        int[] longForm = {3, 0x10, 0, 0x10, 0, 0x05, 1};
        check.same("a log that packing would not give", Run.written(longForm).read().bytes(),
            longForm);
    }

    /** What an entry means is in its own log, never in one that was read before. */
    private static void earlierReadsAreForgotten() {
        EventLog log = Check.withLog(2, 0x0B, 5, 0x19, 0x41);
        check.same("read() of a CLOCK and a TYPED", log.read(), 2);
        Check.setLog(log, 3, 0x18, 0x28, 0x1B);
        check.same("read() of CLOCK with X 1", log.read(), Check.fault(4, 3));
        Check.setLog(log, 3, 0x18, 0x28, 0x09, 1);
        check.same("read() of TYPED with k 1", log.read(), Check.fault(4, 3));
        Check.setLog(log, 2, 0x19, 0x42, 0x09, 2);
        check.same("read() of TYPED with k 2", log.read(), Check.fault(4, 3));
    }
}
