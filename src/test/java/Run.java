import java.util.ArrayList;
import java.util.Arrays;
import java.util.List;
import java.util.function.Consumer;
import java.util.function.ToLongFunction;

/**
 * A run of calls that can be made again on a new object. All that an object tells can take more
 * than the 512 calls that are promised, so a part of it is asked of each of several objects.
 */
final class Run {
    private static final int MOST_CALLS = 512;
    private static final int WHATS = 5;
    private static final int COUNTS = 6;

    private final List<Consumer<EventLog>> calls = new ArrayList<>();

    /** An event of each kind, and a log that has nothing to do with them. */
    static Run some() {
        return new Run()
            .add(Check.SWITCH, 3, 2, 0)
            .add(Check.TYPED, 3, 0x4142, 2)
            .add(Check.SIGNAL, 4, 5, 6)
            .add(Check.CLOCK, 0, 77, 0)
            .add(Check.RANDOM, 9, 0x80000001L, 0)
            .write(2, 0x18, 0x28);
    }

    /** As many events as can be, each of as many bytes as can be. */
    static Run full() {
        Run run = new Run();
        for (int i = 0; i < Check.MOST_EVENTS; i++) {
            run.add(Check.TYPED, Check.FARTHEST - i, i, 8);
        }
        return run;
    }

    static Run written(int... bytes) {
        return new Run().write(bytes);
    }

    Run then(Consumer<EventLog> call) {
        calls.add(call);
        return this;
    }

    Run add(int kind, long difference, long a, int b) {
        return then(log -> log.add(kind, difference, a, b));
    }

    Run addTimes(int times, int kind, long difference, long a, int b) {
        for (int i = 0; i < times; i++) {
            add(kind, difference, a, b);
        }
        return this;
    }

    /** The log becomes these bytes. */
    Run write(int... bytes) {
        then(log -> log.cut(0));
        for (int i = 0; i < bytes.length; i++) {
            int place = i;
            then(log -> log.poke(place, bytes[place]));
        }
        return this;
    }

    Run drop(int n) {
        return then(log -> log.drop(n));
    }

    Run cut(int n) {
        return then(log -> log.cut(n));
    }

    Run poke(int i, int b) {
        return then(log -> log.poke(i, b));
    }

    Run pack() {
        return then(EventLog::pack);
    }

    Run read() {
        return then(EventLog::read);
    }

    /** One more call, whether it throws or not. */
    Run thenTried(Consumer<EventLog> call) {
        return then(log -> {
            try {
                call.accept(log);
            } catch (RuntimeException e) {
                // Who tries a call asks for the state behind it, not for its answer.
            }
        });
    }

    /** A run of its own: these calls and one more, whether that one throws or not. */
    Run tried(Consumer<EventLog> call) {
        Run run = new Run();
        run.calls.addAll(calls);
        return run.thenTried(call);
    }

    EventLog made() {
        if (calls.size() >= MOST_CALLS) {
            throw new AssertionError("a run of " + calls.size() + " calls leaves none to ask");
        }
        EventLog log = new EventLog();
        for (Consumer<EventLog> call : calls) {
            call.accept(log);
        }
        return log;
    }

    long answer(ToLongFunction<EventLog> question) {
        return question.applyAsLong(made());
    }

    /** What each of the events answers to each what, the first event's answers first. */
    long[] events() {
        int number = (int) answer(log -> log.count(0));
        List<ToLongFunction<EventLog>> questions = new ArrayList<>();
        for (int i = 0; i < number * WHATS; i++) {
            int k = i / WHATS;
            int what = i % WHATS;
            questions.add(log -> log.event(k, what));
        }
        return answers(questions);
    }

    int[] bytes() {
        int length = (int) answer(log -> log.count(1));
        List<ToLongFunction<EventLog>> questions = new ArrayList<>();
        for (int i = 0; i < length; i++) {
            int place = i;
            questions.add(log -> log.byteAt(place));
        }
        return Arrays.stream(answers(questions)).mapToInt(b -> (int) b).toArray();
    }

    long[] counts() {
        List<ToLongFunction<EventLog>> questions = new ArrayList<>();
        for (int i = 0; i < COUNTS; i++) {
            int what = i;
            questions.add(log -> log.count(what));
        }
        return answers(questions);
    }

    String state() {
        return "events " + Arrays.toString(events()) + ", log " + Arrays.toString(bytes())
            + ", counts " + Arrays.toString(counts()) + ", size " + answer(EventLog::size);
    }

    private long[] answers(List<ToLongFunction<EventLog>> questions) {
        long[] row = new long[questions.size()];
        EventLog log = null;
        int left = 0;
        for (int i = 0; i < row.length; i++) {
            if (left == 0) {
                log = made();
                left = MOST_CALLS - calls.size();
            }
            row[i] = questions.get(i).applyAsLong(log);
            left--;
        }
        return row;
    }
}
