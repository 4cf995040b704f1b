import java.util.Random;
import java.util.function.LongSupplier;
import java.util.function.ToLongFunction;

/**
 * Runs of 512 calls on new objects, by a chance that is the same each time, beside the model. Once
 * in each run all that the object tells is asked for, of objects that the same calls made.
 */
public final class ModelTest {
    private static final int RUNS = 800;
    private static final int CALLS = 512;
    /** Calls that are left for questions where all is asked for. */
    private static final int LEAST_LEFT = 128;
    private static final int WHATS = 5;
    private static final int COUNTS = 6;
    private static final long[] EDGES = {0, 1, 2, 127, 128, 129, 16383, 16384, 1L << 35,
        Check.FARTHEST - 1, Check.FARTHEST};
    private static final long[] BEYOND = {-1, Check.FARTHEST + 1, Long.MIN_VALUE, Long.MAX_VALUE,
        Integer.MIN_VALUE, Integer.MAX_VALUE, 300, 5000};
    private static final int[] LIKELY_BYTES = {0x18, 0x09, 0x0B, 0x1B, 0x15, 0x05, 0x19, 0x1A,
        128, 255, 1, 0, 2, 3, 32};

    private static final Check check = new Check();
    private static final int[] faults = new int[8];
    private static int reads;
    private static int fullRows;

    private final EventLog log = new EventLog();
    private final Run run = new Run();
    private final Model model = new Model();
    private final Random random;
    private final String name;
    /** Few different values make runs and repeats likely, many make long logs. */
    private final int variety;
    /** How many calls of a hundred add; a full row is met only where most of them do. */
    private final int adds;
    /** Behind how many calls all is asked for. */
    private final int stop;
    private int calls;

    private ModelTest(int seed) {
        random = new Random(seed);
        name = "run " + seed + ", call ";
        variety = 1 << random.nextInt(6);
        adds = random.nextInt(4) == 0 ? 95 : 35;
        stop = 1 + random.nextInt(CALLS - LEAST_LEFT);
    }

    public static void main(String[] args) {
        for (int seed = 0; seed < RUNS; seed++) {
            new ModelTest(seed).go();
        }
        // Runs that never came to these would tell nothing of them.
        for (int which = 1; which < faults.length; which++) {
            check.isTrue("fault " + which + " was met a hundred times", faults[which] >= 100);
        }
        check.isTrue("a thousand logs were read", reads >= 1000);
        check.isTrue("a hundred events were one too many", fullRows >= 100);
        check.end();
    }

    private void go() {
        while (calls < CALLS) {
            if (random.nextInt(100) < adds) {
                add();
            } else {
                another();
            }
        }
    }

    /** What is asked for behind the last call that is promised is left out. */
    private void both(String call, ToLongFunction<EventLog> got, LongSupplier due) {
        if (calls == CALLS) {
            return;
        }
        calls++;
        check.same(name + calls + ": " + call, answer(() -> got.applyAsLong(log)), answer(due));
        if (calls <= stop) {
            run.thenTried(got::applyAsLong);
        }
        if (calls == stop) {
            all();
        }
    }

    private static String answer(LongSupplier call) {
        try {
            return String.valueOf(call.getAsLong());
        } catch (RuntimeException e) {
            return e.getClass().getName();
        }
    }

    private void all() {
        long[] events = new long[model.count(0) * WHATS];
        for (int i = 0; i < events.length; i++) {
            events[i] = model.event(i / WHATS, i % WHATS);
        }
        int[] bytes = new int[model.count(1)];
        for (int i = 0; i < bytes.length; i++) {
            bytes[i] = model.byteAt(i);
        }
        long[] counts = new long[COUNTS];
        for (int what = 0; what < COUNTS; what++) {
            counts[what] = model.count(what);
        }
        check.same(name + calls + ": all events", run.events(), events);
        check.same(name + calls + ": the log", run.bytes(), bytes);
        check.same(name + calls + ": the counts", run.counts(), counts);
    }

    private long some() {
        int choice = random.nextInt(40);
        if (choice == 0) {
            return BEYOND[random.nextInt(BEYOND.length)];
        }
        return choice < 6 ? EDGES[random.nextInt(EDGES.length)] : random.nextInt(variety);
    }

    /** Mostly -1 .. n, so that both ends are met. */
    private int placeIn(int n) {
        return random.nextInt(20) == 0 ? (int) some() : random.nextInt(n + 2) - 1;
    }

    /** Mostly near the end, so that something is left to work on. */
    private int endOf(int n) {
        return random.nextInt(6) == 0 ? placeIn(n) : n + 1 - random.nextInt(4);
    }

    private void add() {
        int kind = random.nextInt(60) == 0 ? (int) some() : random.nextInt(5);
        long difference = random.nextInt(3) == 0 ? some() : random.nextInt(2);
        long a = random.nextInt(12) == 0 ? random.nextLong() : some();
        int b = random.nextInt(30) == 0 ? (int) some() : 1 + random.nextInt(Math.min(8, variety));
        if (model.count(0) == 300) {
            fullRows++;
        }
        both("add(" + kind + ", " + difference + ", " + a + ", " + b + ")",
            x -> x.add(kind, difference, a, b), () -> model.add(kind, difference, a, b));
    }

    private void another() {
        int what = random.nextInt(8) - 1;
        switch (random.nextInt(12)) {
            case 0 -> both("pack()", EventLog::pack, model::pack);
            case 1 -> both("size()", EventLog::size, model::size);
            case 2 -> read();
            case 3 -> readSpoiled();
            case 4 -> readWritten();
            case 5 -> byteAt(placeIn(model.count(1)));
            case 6 -> event(placeIn(model.count(0)), what);
            case 7 -> at(placeIn(model.count(0)));
            case 8 -> both("count(" + what + ")", x -> x.count(what), () -> model.count(what));
            case 9 -> drop(endOf(model.count(0)));
            case 10 -> cut(endOf(model.count(1)));
            default -> poke(placeIn(model.count(1)), random.nextInt(262) - 3);
        }
    }

    private void byteAt(int i) {
        both("byteAt(" + i + ")", x -> x.byteAt(i), () -> model.byteAt(i));
    }

    private void event(int k, int what) {
        both("event(" + k + ", " + what + ")", x -> x.event(k, what), () -> model.event(k, what));
    }

    private void at(int k) {
        boolean there = k >= 0 && k < model.count(0);
        long c = (there ? model.event(k, 4) : some()) + random.nextInt(3) - 1;
        both("at(" + c + ")", x -> x.at(c), () -> model.at(c));
    }

    private void drop(int n) {
        both("drop(" + n + ")", x -> x.drop(n), () -> model.drop(n));
    }

    private void cut(int n) {
        both("cut(" + n + ")", x -> x.cut(n), () -> model.cut(n));
    }

    private void poke(int i, int b) {
        both("poke(" + i + ", " + b + ")",
            x -> {
                x.poke(i, b);
                return 0;
            },
            () -> {
                model.poke(i, b);
                return 0;
            });
    }

    /** The last event shows the most of what the entries before it were taken for. */
    private void read() {
        both("read()", EventLog::read, this::modelRead);
        for (int what = 0; what < WHATS; what++) {
            event(model.count(0) - 1, what);
        }
    }

    private int modelRead() {
        int due = model.read();
        if (due < 0) {
            faults[(-1 - due) % 8]++;
        } else {
            reads++;
        }
        return due;
    }

    /** A packed log with a byte or two made others has a fault, or means something else. */
    private void readSpoiled() {
        both("pack()", EventLog::pack, model::pack);
        for (int n = random.nextInt(3); n > 0; n--) {
            int most = random.nextBoolean() ? 256 : 16;
            poke(random.nextInt(model.count(1) + 1), random.nextInt(most));
        }
        read();
    }

    private void readWritten() {
        cut(0);
        int length = random.nextInt(14);
        for (int i = 0; i < length; i++) {
            int b = random.nextInt(3) > 0 ? LIKELY_BYTES[random.nextInt(LIKELY_BYTES.length)]
                : random.nextInt(256);
            poke(i, i == 0 ? random.nextInt(6) : b);
        }
        read();
    }
}
