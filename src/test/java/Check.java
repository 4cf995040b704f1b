import java.util.Arrays;
import java.util.function.Consumer;

/** What the tests share: the counting of wrong answers, and logs written and read as rows. */
final class Check {
    static final int SWITCH = 0;
    static final int TYPED = 1;
    static final int SIGNAL = 2;
    static final int CLOCK = 3;
    static final int RANDOM = 4;
    static final long FARTHEST = 1L << 40;
    static final int MOST_EVENTS = 300;
    /** How many bytes 300 events take at the most; Run.full() has them. */
    static final int LONGEST_PACKED = 2 + 300 * 15;

    private int checks;
    private int wrong;

    void same(String what, long got, long due) {
        checks++;
        if (got != due) {
            wrong++;
            System.out.println(what + " answered " + got + ", due is " + due);
        }
    }

    void same(String what, String got, String due) {
        checks++;
        if (!got.equals(due)) {
            wrong++;
            System.out.println(what + " answered " + got + ", due is " + due);
        }
    }

    void same(String what, long[] got, long[] due) {
        same(what, Arrays.toString(got), Arrays.toString(due));
    }

    void same(String what, int[] got, int[] due) {
        checks++;
        if (!Arrays.equals(got, due)) {
            wrong++;
            System.out.println(what + " gave " + Arrays.toString(got)
                + ", due is " + Arrays.toString(due));
        }
    }

    void isTrue(String what, boolean held) {
        checks++;
        if (!held) {
            wrong++;
            System.out.println(what + " does not hold");
        }
    }

    /** The class itself is asked for, since the machine throws subclasses of the due ones. */
    void isThrown(String what, Class<? extends RuntimeException> due, Runnable call) {
        checks++;
        Class<?> got = null;
        try {
            call.run();
        } catch (RuntimeException e) {
            got = e.getClass();
        }
        if (got != due) {
            wrong++;
            System.out.println(what + " threw " + got + ", due is " + due);
        }
    }

    /** The call throws this behind the run, and all is as it was. */
    void isRefused(String what, Class<? extends RuntimeException> due, Run run,
            Consumer<EventLog> call) {
        EventLog log = run.made();
        isThrown(what, due, () -> call.accept(log));
        leavesAll(what, run, call);
    }

    void leavesAll(String what, Run run, Consumer<EventLog> call) {
        same("what there is behind " + what, run.tried(call).state(), run.state());
    }

    void end() {
        System.out.println(checks + " answers, " + wrong + " of them wrong");
        if (wrong != 0 || checks == 0) {
            System.exit(1);
        }
    }

    static EventLog withLog(int... bytes) {
        EventLog log = new EventLog();
        setLog(log, bytes);
        return log;
    }

    static void setLog(EventLog log, int... bytes) {
        log.cut(0);
        for (int i = 0; i < bytes.length; i++) {
            log.poke(i, bytes[i]);
        }
    }

    static int[] bytes(EventLog log) {
        int[] row = new int[log.count(1)];
        for (int i = 0; i < row.length; i++) {
            row[i] = log.byteAt(i);
        }
        return row;
    }

    static int[] packed(EventLog log) {
        log.pack();
        return bytes(log);
    }

    static int[] row(int... bytes) {
        return bytes;
    }

    static int[] joined(int[]... rows) {
        return Arrays.stream(rows).flatMapToInt(Arrays::stream).toArray();
    }

    static int fault(int which, int place) {
        return -1 - (which + 8 * place);
    }

    void sameEvent(EventLog log, int k, long kind, long difference, long a, long b) {
        String name = "event(" + k + ", ";
        same(name + "0)", log.event(k, 0), kind);
        same(name + "1)", log.event(k, 1), difference);
        same(name + "2)", log.event(k, 2), a);
        same(name + "3)", log.event(k, 3), b);
    }
}
