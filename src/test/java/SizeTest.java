/** Promise 5: size. */
public final class SizeTest {
    private static final Check check = new Check();

    public static void main(String[] args) {
        size("no events", new Run(), 1);
        size("no events over a log", Run.written(9, 8, 7), 1);
        size("one event", new Run().add(Check.SWITCH, 0, 1, 0), 2);
        size("one event more far", new Run().add(Check.SWITCH, 1, 1, 0), 3);
        size("some events", Run.some(), 1 + 2 + 3 + 3 + 3 + 6);
        size("300 alike", new Run().addTimes(300, Check.SWITCH, 0, 1, 0), 6);
        size("300 of the longest", Run.full(), Check.LONGEST_PACKED);
        runBounds();
        whatPackGives();
        packedAndSpoiled();
        check.end();
    }

    /** "How many bytes pack() would give; nothing changes." */
    private static void size(String what, Run run, int due) {
        check.same("size() of " + what, run.answer(EventLog::size), due);
        check.same("pack() of " + what, run.answer(EventLog::pack), due);
        check.same("size() again of " + what, run.tried(EventLog::size).answer(EventLog::size),
            due);
        check.leavesAll("size() of " + what, run, EventLog::size);
    }

    private static void runBounds() {
        size("16 alike", new Run().addTimes(16, Check.SWITCH, 0, 1, 0), 3);
        size("17 alike", new Run().addTimes(17, Check.SWITCH, 0, 1, 0), 4);
        size("127 alike", new Run().addTimes(127, Check.SWITCH, 0, 1, 0), 4);
        size("128 alike", new Run().addTimes(128, Check.SWITCH, 0, 1, 0), 5);
        size("129 alike", new Run().addTimes(129, Check.SWITCH, 0, 1, 0), 6);
    }

    private static void whatPackGives() {
        Run run = new Run();
        for (int i = 0; i < 300; i++) {
            run.add(i % 5, i % 7 * 100, i % 16, i % 8 + 1);
            if (i % 13 == 0) {
                check.same("size() of " + (i + 1), run.answer(EventLog::size),
                    run.answer(EventLog::pack));
            }
        }
    }

    /** It is told of the events, whatever the log has. */
    private static void packedAndSpoiled() {
        check.same("size() behind pack()", Run.some().pack().answer(EventLog::size), 18);
        check.same("size() behind cut(0)", Run.some().pack().cut(0).answer(EventLog::size), 18);
        check.same("size() behind drop(0)", Run.some().pack().drop(0).answer(EventLog::size), 1);
    }
}
