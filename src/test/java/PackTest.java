import java.util.Arrays;

/** Promise 4: pack, by the one rule that the terms tell. */
public final class PackTest {
    private static final Check check = new Check();

    public static void main(String[] args) {
        noEvents();
        eachKind();
        sameDifference();
        varints();
        runs();
        runLengths();
        runsNeedAllAlike();
        typedAgain();
        typedFarBack();
        typedBehindRuns();
        clockAgain();
        logIsReplaced();
        longestLog();
        check.end();
    }

    private static void due(String what, EventLog log, int... bytes) {
        check.same(what + ": pack()", log.pack(), bytes.length);
        check.same(what + ": the log", Check.bytes(log), bytes);
    }

    private static void noEvents() {
        due("no events", new EventLog(), 0);
    }

    private static void eachKind() {
        EventLog log = new EventLog();
        log.add(Check.SWITCH, 1, 15, 0);
        log.add(Check.TYPED, 2, 0x0102030405060708L, 8);
        log.add(Check.TYPED, 3, 0xFF00L, 2);
        log.add(Check.SIGNAL, 4, 9, 31);
        log.add(Check.CLOCK, 5, 300, 0);
        log.add(Check.RANDOM, 6, 0xA1B2C3D4L, 0);
        due("each kind", log, 6,
            0xF0, 1,
            0x81, 2, 1, 2, 3, 4, 5, 6, 7, 8,
            0x21, 3, 0xFF, 0,
            0x92, 4, 31,
            0x03, 5, 0xAC, 2,
            0x04, 6, 0xA1, 0xB2, 0xC3, 0xD4);
        check.same("events behind pack()", log.count(0), 6);
    }

    private static void sameDifference() {
        EventLog log = new EventLog();
        log.add(Check.SWITCH, 0, 1, 0);
        log.add(Check.SWITCH, 0, 2, 0);
        log.add(Check.SIGNAL, 5, 2, 3);
        log.add(Check.RANDOM, 5, 0, 0);
        log.add(Check.SWITCH, 0, 1, 0);
        due("SAME", log, 5, 0x18, 0x28, 0x22, 5, 3, 0x0C, 0, 0, 0, 0, 0x10, 0);
    }

    private static void varints() {
        long[] values = {127, 128, 16383, 16384, Check.FARTHEST};
        int[][] rows = {{127}, {128, 1}, {255, 127}, {128, 128, 1}, {128, 128, 128, 128, 128, 32}};
        for (int i = 0; i < values.length; i++) {
            EventLog log = new EventLog();
            log.add(Check.CLOCK, values[i], values[i], 0);
            due("varint " + values[i], log, Check.joined(Check.row(1, 3), rows[i], rows[i]));
        }
    }

    private static void runs() {
        EventLog log = new EventLog();
        for (int i = 0; i < 3; i++) {
            log.add(Check.TYPED, 5, 0x6162, 2);
        }
        log.add(Check.SWITCH, 5, 1, 0);
        log.add(Check.SWITCH, 5, 1, 0);
        due("runs", log, 5, 0x21, 5, 0x61, 0x62, 0x25, 0x18, 0x15);
    }

    private static void runLengths() {
        int[] more = {1, 15, 16, 127, 128, 299};
        int[][] rows = {{0x15}, {0xF5}, {5, 16}, {5, 127}, {5, 128, 1}, {5, 0xAB, 2}};
        int[][] numbers = {{2}, {16}, {17}, {128, 1}, {129, 1}, {0xAC, 2}};
        for (int i = 0; i < more.length; i++) {
            EventLog log = new EventLog();
            for (int n = 0; n <= more[i]; n++) {
                log.add(Check.SIGNAL, 0, 3, 7);
            }
            due("run of " + more[i], log,
                Check.joined(numbers[i], Check.row(0x3A, 7), rows[i]));
        }
    }

    private static void runsNeedAllAlike() {
        EventLog log = new EventLog();
        log.add(Check.SIGNAL, 1, 3, 7);
        log.add(Check.SIGNAL, 2, 3, 7);
        log.add(Check.SIGNAL, 2, 4, 7);
        log.add(Check.SIGNAL, 2, 4, 8);
        log.add(Check.SWITCH, 2, 4, 0);
        due("not alike", log, 5, 0x32, 1, 7, 0x32, 2, 7, 0x4A, 7, 0x4A, 8, 0x48);

        // The same number from more bytes is not the same.
        EventLog typed = new EventLog();
        typed.add(Check.TYPED, 1, 1, 2);
        typed.add(Check.TYPED, 1, 1, 3);
        due("not as long", typed, 2, 0x21, 1, 0, 1, 0x39, 0, 0, 1);

        // Bits that an event does not bring do not make it another one.
        EventLog masked = new EventLog();
        masked.add(Check.RANDOM, 1, 5, 1);
        masked.add(Check.RANDOM, 1, 5 + (1L << 32), 2);
        masked.add(Check.TYPED, 1, 0x41, 1);
        masked.add(Check.TYPED, 1, 0x141, 1);
        due("masked", masked, 4, 0x04, 1, 0, 0, 0, 5, 0x15, 0x19, 0x41, 0x15);
    }

    private static void typedAgain() {
        EventLog log = new EventLog();
        log.add(Check.TYPED, 1, 0x6162, 2);
        log.add(Check.TYPED, 2, 0x6364, 2);
        log.add(Check.TYPED, 3, 0x6162, 2);
        log.add(Check.SWITCH, 3, 1, 0);
        log.add(Check.TYPED, 3, 0x6162, 2);
        log.add(Check.TYPED, 3, 0x65, 1);
        log.add(Check.TYPED, 4, 0x65, 1);
        log.add(Check.TYPED, 4, 0x6364, 2);
        due("TYPED with k", log, 8,
            0x21, 1, 0x61, 0x62,
            0x21, 2, 0x63, 0x64,
            0x01, 3, 2,
            0x18,
            0x09, 1,
            0x19, 0x65,
            0x11, 4, 0x65,
            0x09, 5);
    }

    /** k is 20 at the most. */
    private static void typedFarBack() {
        for (int between = 18; between <= 21; between++) {
            EventLog log = new EventLog();
            log.add(Check.TYPED, 0, 0x4142, 2);
            for (int i = 0; i < between; i++) {
                log.add(Check.TYPED, 0, i, 1);
            }
            log.add(Check.TYPED, 0, 0x4142, 2);
            int[] row = Check.packed(log);
            int[] due = between < 20 ? Check.row(0x09, between + 1) : Check.row(0x29, 0x41, 0x42);
            int[] got = Arrays.copyOfRange(row, row.length - due.length, row.length);
            check.same("with " + between + " between", got, due);
            check.same("length with " + between + " between", row.length,
                1 + 3 + 2 * between + due.length);
        }
    }

    /** k counts events, not entries. */
    private static void typedBehindRuns() {
        EventLog log = new EventLog();
        log.add(Check.TYPED, 0, 0x4142, 2);
        for (int i = 0; i < 5; i++) {
            log.add(Check.TYPED, 0, 0x43, 1);
        }
        log.add(Check.TYPED, 0, 0x4142, 2);
        due("k over a run", log, 7, 0x29, 0x41, 0x42, 0x19, 0x43, 0x45, 0x09, 6);
        log.drop(6);
        for (int i = 0; i < 15; i++) {
            log.add(Check.TYPED, 0, 0x43, 1);
        }
        log.add(Check.TYPED, 0, 0x4142, 2);
        due("too far over a run", log, 22,
            0x29, 0x41, 0x42, 0x19, 0x43, 0x05, 19, 0x29, 0x41, 0x42);
    }

    private static void clockAgain() {
        EventLog log = new EventLog();
        log.add(Check.CLOCK, 1, 0, 0);
        log.add(Check.CLOCK, 2, 0, 0);
        log.add(Check.CLOCK, 2, 9, 0);
        log.add(Check.SWITCH, 2, 9, 0);
        log.add(Check.CLOCK, 2, 9, 0);
        log.add(Check.CLOCK, 2, 0, 0);
        log.add(Check.CLOCK, 3, 9, 0);
        due("CLOCK", log, 7, 0x03, 1, 0, 0x13, 2, 0x0B, 9, 0x98, 0x1B, 0x0B, 0, 0x03, 3, 9);
    }

    private static void logIsReplaced() {
        EventLog log = Check.withLog(1, 2, 3, 4, 5, 6, 7, 8);
        log.add(Check.SWITCH, 0, 2, 0);
        due("over a longer log", log, 1, 0x28);
        log.add(Check.SWITCH, 1, 3, 0);
        due("over a shorter log", log, 2, 0x28, 0x30, 1);
        due("the same again", log, 2, 0x28, 0x30, 1);
    }

    private static void longestLog() {
        EventLog log = new EventLog();
        for (int i = 0; i < 300; i++) {
            log.add(Check.TYPED, Check.FARTHEST - i, i, 8);
        }
        check.same("pack() of the longest", log.pack(), 2 + 300 * (1 + 6 + 8));
    }
}
