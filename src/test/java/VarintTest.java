import java.util.Arrays;

/** The terms' varint, in each of its five places, packed and read, up to its bounds. */
public final class VarintTest {
    /** The last value of each length, and the first one of the next. */
    private static final long[] VALUES = {1, 127, 128, 16383, 16384, 2097151, 2097152, 268435455,
        268435456, (1L << 35) - 1, 1L << 35, (1L << 40) - 1, 1L << 40};
    private static final int[][] ROWS = {
        {1},
        {127},
        {128, 1},
        {255, 127},
        {128, 128, 1},
        {255, 255, 127},
        {128, 128, 128, 1},
        {255, 255, 255, 127},
        {128, 128, 128, 128, 1},
        {255, 255, 255, 255, 127},
        {128, 128, 128, 128, 128, 1},
        {255, 255, 255, 255, 255, 31},
        {128, 128, 128, 128, 128, 32}};

    /** What stands before a varint: nothing, or what goes before a difference, how far, k, n. */
    private static final int[][] FRONTS = {{}, {1, 0x10}, {1, 0x11}, {1, 0x01}, {1, 0x12},
        {1, 0x03}, {1, 0x13}, {1, 0x04}, {1, 0x0B}, {1, 0x03, 5}, {2, 0x19, 0x41, 0x09},
        {2, 0x19, 0x41, 0x01, 5}, {2, 0x18, 0x05}};

    private static final Check check = new Check();

    public static void main(String[] args) {
        differences();
        clocks();
        zeros();
        numbersOfEvents();
        lengthsOfRuns();
        farTyped();
        longerThanItMustBe();
        aboveTheFarthest();
        sevenBytes();
        endsInside();
        check.end();
    }

    private static void bothWays(String what, Run run, int... bytes) {
        check.same(what + " packed", run.answer(EventLog::pack), bytes.length);
        check.same(what + ": the log", run.pack().bytes(), bytes);
        Run read = Run.written(bytes).read();
        check.same(what + " read", read.events(), run.events());
        check.same(what + ": its number", Run.written(bytes).answer(EventLog::read),
            run.answer(log -> log.count(0)));
    }

    /** "seven bits in each byte, the lowest first, and 128 more in each but the last". */
    private static void differences() {
        for (int i = 0; i < VALUES.length; i++) {
            bothWays("difference " + VALUES[i], new Run().add(Check.SWITCH, VALUES[i], 2, 0),
                Check.joined(Check.row(1, 0x20), ROWS[i]));
        }
    }

    private static void clocks() {
        for (int i = 0; i < VALUES.length; i++) {
            bothWays("CLOCK " + VALUES[i], new Run().add(Check.CLOCK, 0, VALUES[i], 0),
                Check.joined(Check.row(1, 0x0B), ROWS[i]));
        }
    }

    private static void zeros() {
        bothWays("CLOCK 0", new Run().add(Check.CLOCK, 0, 0, 0), 1, 0x0B, 0);
        bothWays("difference 0", new Run().add(Check.SWITCH, 1, 2, 0).add(Check.SWITCH, 0, 2, 0),
            2, 0x20, 1, 0x20, 0);
        bothWays("no events", new Run(), 0);
    }

    private static void numbersOfEvents() {
        int[] numbers = {1, 127, 128, 299, 300};
        int[][] rows = {{1}, {127}, {128, 1}, {0xAB, 2}, {0xAC, 2}};
        for (int i = 0; i < numbers.length; i++) {
            Run run = new Run();
            int[] entries = new int[2 * numbers[i]];
            for (int n = 0; n < numbers[i]; n++) {
                run.add(Check.SWITCH, n % 2 + 1, 3, 0);
                entries[2 * n] = 0x30;
                entries[2 * n + 1] = n % 2 + 1;
            }
            int[] due = Check.joined(rows[i], entries);
            check.same("the log of " + numbers[i], run.pack().bytes(), due);
            check.same("read() of " + numbers[i], run.answer(EventLog::read), numbers[i]);
        }
    }

    /** n is a varint from 16 on when it is packed, from 1 on when it is read. */
    private static void lengthsOfRuns() {
        int[] more = {16, 127, 128, 299};
        int[][] rows = {{16}, {127}, {128, 1}, {0xAB, 2}};
        int[][] numbers = {{17}, {128, 1}, {129, 1}, {0xAC, 2}};
        for (int i = 0; i < more.length; i++) {
            bothWays("a run of " + more[i], new Run().addTimes(more[i] + 1, Check.SWITCH, 0, 7, 0),
                Check.joined(numbers[i], Check.row(0x78, 0x05), rows[i]));
        }
        for (int n = 1; n <= 15; n++) {
            check.same("n " + n + " as a varint",
                Run.written(n + 1, 0x78, 0x05, n).read().events(),
                new Run().addTimes(n + 1, Check.SWITCH, 0, 7, 0).events());
        }
    }

    /** k may be read beyond the 20 that packing looks at. */
    private static void farTyped() {
        int[] before = {1, 20, 21, 127, 128, 299};
        int[][] numbers = {{2}, {21}, {22}, {128, 1}, {129, 1}, {0xAC, 2}};
        int[][] rows = {{1}, {20}, {21}, {127}, {128, 1}, {0xAB, 2}};
        for (int i = 0; i < before.length; i++) {
            int[] others = before[i] == 1 ? new int[0]
                : Check.joined(Check.row(0x19, 0x43, 0x05), varint(before[i] - 2));
            Run run = Run.written(Check.joined(numbers[i], Check.row(0x29, 0x41, 0x42), others,
                Check.row(0x09), rows[i]));
            check.same("read() with k " + before[i], run.answer(EventLog::read), before[i] + 1);
            check.sameEvent(run.read().made(), before[i], Check.TYPED, 0, 0x4142, 2);
        }
    }

    private static int[] varint(int value) {
        return value < 128 ? Check.row(value) : Check.row(value % 128 + 128, value / 128);
    }

    private static void faulty(int place, int[] front, int... bytes) {
        int[] log = Check.joined(front, bytes);
        for (int[] behind : new int[][] {{}, {0}, {1, 0xFF}}) {
            int[] whole = Check.joined(log, behind);
            check.same("read() of " + Arrays.toString(whole),
                Run.written(whole).answer(EventLog::read), Check.fault(3, front.length + place));
        }
    }

    /** "3 a varint that is longer than it must be [..] at its last byte". */
    private static void longerThanItMustBe() {
        for (int[] front : FRONTS) {
            for (int length = 2; length <= 7; length++) {
                int[] bytes = new int[length];
                Arrays.fill(bytes, 0, length - 1, 128);
                faulty(length - 1, front, bytes);
                Arrays.fill(bytes, 0, length - 1, 129);
                faulty(length - 1, front, bytes);
            }
            faulty(6, front, 128, 128, 128, 128, 128, 160, 0);
        }
    }

    /** "or above 2^40, at its last byte". */
    private static void aboveTheFarthest() {
        for (int[] front : FRONTS) {
            faulty(5, front, 129, 128, 128, 128, 128, 32);
            faulty(5, front, 128, 128, 128, 128, 129, 32);
            faulty(5, front, 128, 128, 128, 128, 128, 33);
            faulty(5, front, 128, 128, 128, 128, 128, 64);
            faulty(5, front, 255, 255, 255, 255, 255, 127);
        }
    }

    /** "(at its seventh, when this is no last one)". */
    private static void sevenBytes() {
        for (int[] front : FRONTS) {
            faulty(6, front, 128, 128, 128, 128, 128, 128, 1);
            faulty(6, front, 128, 128, 128, 128, 128, 128, 127);
            faulty(6, front, 128, 128, 128, 128, 128, 128, 128);
            faulty(6, front, 255, 255, 255, 255, 255, 255, 255);
            faulty(6, front, 129, 128, 128, 128, 128, 128, 128, 0);
        }
    }

    /** Six bytes that go on and the log's end are fault 2, since a seventh must be. */
    private static void endsInside() {
        for (int[] front : FRONTS) {
            for (int length = 0; length <= 6; length++) {
                int[] bytes = new int[length];
                Arrays.fill(bytes, 255);
                int[] log = Check.joined(front, bytes);
                check.same("read() of " + Arrays.toString(log),
                    Run.written(log).answer(EventLog::read), Check.fault(2, log.length));
            }
        }
    }
}
