import java.util.Arrays;

/** Promise 4: pack, by the one rule that the terms tell. */
public final class PackTest {
    private static final Check check = new Check();

    public static void main(String[] args) {
        noEvents();
        eachKind();
        headsOfEachX();
        firstDifference();
        sameDifference();
        firstIsNoRun();
        runs();
        runLengths();
        runsNeedAllAlike();
        likeWithoutOtherBits();
        typedAgain();
        typedOfOneByte();
        typedOfEachLength();
        typedOfAnotherLength();
        typedFarBack();
        leastOfSeveral();
        othersDoNotCount();
        typedBehindRuns();
        clockAgain();
        clockFarBack();
        logIsReplaced();
        packedAgain();
        eventsStay();
        shortestOfAll();
        longestOfAll();
        check.end();
    }

    /** "Packs the events: [..] how many bytes." */
    private static void due(String what, Run run, int... bytes) {
        check.same(what + ": pack()", run.answer(EventLog::pack), bytes.length);
        check.same(what + ": the log", run.pack().bytes(), bytes);
    }

    private static void noEvents() {
        due("no events", new Run(), 0);
        due("no events over a log", Run.written(1, 2, 3), 0);
    }

    private static void eachKind() {
        due("each kind", new Run()
            .add(Check.SWITCH, 1, 15, 0)
            .add(Check.TYPED, 2, 0x0102030405060708L, 8)
            .add(Check.TYPED, 3, 0xFF00L, 2)
            .add(Check.SIGNAL, 4, 9, 31)
            .add(Check.CLOCK, 5, 300, 0)
            .add(Check.RANDOM, 6, 0xA1B2C3D4L, 0),
            6,
            0xF0, 1,
            0x81, 2, 1, 2, 3, 4, 5, 6, 7, 8,
            0x21, 3, 0xFF, 0,
            0x92, 4, 31,
            0x03, 5, 0xAC, 2,
            0x04, 6, 0xA1, 0xB2, 0xC3, 0xD4);
    }

    /** "bits 4 .. 7 X", from the least to the most of each kind. */
    private static void headsOfEachX() {
        for (int x = 0; x <= 15; x++) {
            due("SWITCH " + x, new Run().add(Check.SWITCH, 9, x, 0), 1, 16 * x, 9);
            due("SIGNAL " + x, new Run().add(Check.SIGNAL, 9, x, 1), 1, 16 * x + 2, 9, 1);
        }
        for (int x = 1; x <= 8; x++) {
            int[] typed = new int[x];
            Arrays.fill(typed, 255);
            due("TYPED " + x, new Run().add(Check.TYPED, 9, -1, x),
                Check.joined(Check.row(1, 16 * x + 1, 9), typed));
        }
        due("RANDOM 0", new Run().add(Check.RANDOM, 9, 0, 0), 1, 4, 9, 0, 0, 0, 0);
        due("RANDOM -1", new Run().add(Check.RANDOM, 9, -1, 0), 1, 4, 9, 255, 255, 255, 255);
    }

    /** "SAME: the difference is that of the event before (0 for the first event)". */
    private static void firstDifference() {
        due("first with 0", new Run().add(Check.SWITCH, 0, 3, 0), 1, 0x38);
        due("first with 1", new Run().add(Check.SWITCH, 1, 3, 0), 1, 0x30, 1);
        due("first TYPED with 0", new Run().add(Check.TYPED, 0, 0x41, 1), 1, 0x19, 0x41);
        due("first SIGNAL with 0", new Run().add(Check.SIGNAL, 0, 3, 4), 1, 0x3A, 4);
        due("first CLOCK with 0", new Run().add(Check.CLOCK, 0, 3, 0), 1, 0x0B, 3);
        due("first RANDOM with 0", new Run().add(Check.RANDOM, 0, 3, 0), 1, 0x0C, 0, 0, 0, 3);
    }

    /** "SAME if it can be". */
    private static void sameDifference() {
        due("SAME", new Run()
            .add(Check.SWITCH, 0, 1, 0)
            .add(Check.SWITCH, 0, 2, 0)
            .add(Check.SIGNAL, 5, 2, 3)
            .add(Check.RANDOM, 5, 0, 0)
            .add(Check.SWITCH, 0, 1, 0)
            .add(Check.SWITCH, 5, 1, 0),
            6, 0x18, 0x28, 0x22, 5, 3, 0x0C, 0, 0, 0, 0, 0x10, 0, 0x10, 5);
        due("SAME of the farthest", new Run()
            .add(Check.SWITCH, Check.FARTHEST, 1, 0)
            .add(Check.SWITCH, Check.FARTHEST, 2, 0)
            .add(Check.SWITCH, Check.FARTHEST - 1, 3, 0),
            3, 0x10, 128, 128, 128, 128, 128, 32, 0x28, 0x30, 255, 255, 255, 255, 255, 31);
        due("SAME behind a run", new Run()
            .addTimes(3, Check.SWITCH, 4, 1, 0)
            .add(Check.SWITCH, 4, 2, 0),
            4, 0x10, 4, 0x25, 0x28);
        due("SAME with k and as far", new Run()
            .add(Check.TYPED, 4, 0x4142, 2)
            .add(Check.CLOCK, 4, 9, 0)
            .add(Check.TYPED, 4, 0x4142, 2)
            .add(Check.CLOCK, 4, 9, 0),
            4, 0x21, 4, 0x41, 0x42, 0x0B, 9, 0x09, 1, 0x1B);
    }

    /** There is no event before the first one that it could be like. */
    private static void firstIsNoRun() {
        due("all 0", new Run().add(Check.SWITCH, 0, 0, 0), 1, 0x08);
        due("all 0 twice", new Run().addTimes(2, Check.SWITCH, 0, 0, 0), 2, 0x08, 0x15);
    }

    /** "those that are like the event before in all [..] are one RUN, as many as there are". */
    private static void runs() {
        due("runs of each kind", new Run()
            .addTimes(3, Check.TYPED, 5, 0x6162, 2)
            .addTimes(2, Check.SWITCH, 5, 1, 0)
            .addTimes(2, Check.SIGNAL, 6, 1, 2)
            .addTimes(4, Check.CLOCK, 6, 3, 0)
            .addTimes(2, Check.RANDOM, 6, 3, 0)
            .addTimes(2, Check.TYPED, 6, 0x41, 1),
            15, 0x21, 5, 0x61, 0x62, 0x25, 0x18, 0x15, 0x12, 6, 2, 0x15, 0x0B, 3, 0x35,
            0x0C, 0, 0, 0, 3, 0x15, 0x19, 0x41, 0x15);
    }

    /** "X for n up to 15, else the varint". */
    private static void runLengths() {
        for (int n = 1; n <= 15; n++) {
            due("run of " + n, new Run().addTimes(n + 1, Check.SIGNAL, 0, 3, 7),
                n + 1, 0x3A, 7, 16 * n + 5);
        }
        int[] more = {16, 17, 127, 128, 299};
        int[][] rows = {{5, 16}, {5, 17}, {5, 127}, {5, 128, 1}, {5, 0xAB, 2}};
        int[][] numbers = {{17}, {18}, {128, 1}, {129, 1}, {0xAC, 2}};
        for (int i = 0; i < more.length; i++) {
            due("run of " + more[i], new Run().addTimes(more[i] + 1, Check.SIGNAL, 0, 3, 7),
                Check.joined(numbers[i], Check.row(0x3A, 7), rows[i]));
        }
    }

    /** "like the event before in all (kind, difference, what they bring)". */
    private static void runsNeedAllAlike() {
        due("not alike", new Run()
            .add(Check.SIGNAL, 1, 3, 7)
            .add(Check.SIGNAL, 2, 3, 7)
            .add(Check.SIGNAL, 2, 4, 7)
            .add(Check.SIGNAL, 2, 4, 8)
            .add(Check.SWITCH, 2, 4, 0),
            5, 0x32, 1, 7, 0x32, 2, 7, 0x4A, 7, 0x4A, 8, 0x48);
        due("not as long", new Run().add(Check.TYPED, 1, 1, 2).add(Check.TYPED, 1, 1, 3),
            2, 0x21, 1, 0, 1, 0x39, 0, 0, 1);
        due("not of a kind", new Run().add(Check.CLOCK, 1, 1, 0).add(Check.RANDOM, 1, 1, 0),
            2, 0x03, 1, 1, 0x0C, 0, 0, 0, 1);
        due("one between", new Run().add(Check.SWITCH, 1, 1, 0).add(Check.SWITCH, 1, 2, 0)
            .add(Check.SWITCH, 1, 1, 0), 3, 0x10, 1, 0x28, 0x18);
    }

    /** Bits that an event does not bring do not make it another one. */
    private static void likeWithoutOtherBits() {
        due("other bits", new Run()
            .add(Check.RANDOM, 1, 5, 1)
            .add(Check.RANDOM, 1, 5 + (1L << 32), 2)
            .add(Check.TYPED, 1, 0x41, 1)
            .add(Check.TYPED, 1, 0x141, 1)
            .add(Check.TYPED, 1, 0x4142, 2)
            .add(Check.TYPED, 2, 0x994142, 2)
            .add(Check.CLOCK, 2, 6, 7)
            .add(Check.CLOCK, 2, 6, 8),
            8, 0x04, 1, 0, 0, 0, 5, 0x15, 0x19, 0x41, 0x15, 0x29, 0x41, 0x42, 0x01, 2, 1,
            0x0B, 6, 0x15);
    }

    /** "any other one is an entry [..]; TYPED with k". */
    private static void typedAgain() {
        due("TYPED with k", new Run()
            .add(Check.TYPED, 1, 0x6162, 2)
            .add(Check.TYPED, 2, 0x6364, 2)
            .add(Check.TYPED, 3, 0x6162, 2)
            .add(Check.SWITCH, 3, 1, 0)
            .add(Check.TYPED, 3, 0x6162, 2)
            .add(Check.TYPED, 3, 0x65, 1)
            .add(Check.TYPED, 4, 0x65, 1)
            .add(Check.TYPED, 4, 0x6364, 2),
            8,
            0x21, 1, 0x61, 0x62,
            0x21, 2, 0x63, 0x64,
            0x01, 3, 2,
            0x18,
            0x09, 1,
            0x19, 0x65,
            0x11, 4, 0x65,
            0x09, 5);
    }

    /** "the same bytes, two or more": one byte is never told by k. */
    private static void typedOfOneByte() {
        due("one byte again", new Run().add(Check.TYPED, 1, 0x41, 1).add(Check.TYPED, 2, 0x41, 1),
            2, 0x11, 1, 0x41, 0x11, 2, 0x41);
        due("two bytes again",
            new Run().add(Check.TYPED, 1, 0x4141, 2).add(Check.TYPED, 2, 0x4141, 2),
            2, 0x21, 1, 0x41, 0x41, 0x01, 2, 1);
    }

    private static void typedOfEachLength() {
        for (int b = 2; b <= 8; b++) {
            int[] zeros = new int[b];
            due(b + " bytes again", new Run().add(Check.TYPED, 1, 0, b).add(Check.TYPED, 2, 0, b),
                Check.joined(Check.row(2, 16 * b + 1, 1), zeros, Check.row(0x01, 2, 1)));
            // The highest of the bytes counts as much as the others.
            due(b + " bytes, the first another",
                new Run().add(Check.TYPED, 1, 0, b).add(Check.TYPED, 2, 255L << (8 * b - 8), b),
                Check.joined(Check.row(2, 16 * b + 1, 1), zeros, Check.row(16 * b + 1, 2, 255),
                    new int[b - 1]));
        }
    }

    private static void typedOfAnotherLength() {
        due("other lengths", new Run()
            .add(Check.TYPED, 1, 0x41, 2)
            .add(Check.TYPED, 2, 0x41, 3)
            .add(Check.TYPED, 3, 0x41, 1)
            .add(Check.TYPED, 4, 0x41, 2),
            4, 0x21, 1, 0, 0x41, 0x31, 2, 0, 0, 0x41, 0x11, 3, 0x41, 0x01, 4, 3);
    }

    /** "if one of the 20 latest TYPED events before has the same bytes". */
    private static void typedFarBack() {
        for (int between = 0; between <= 40; between++) {
            Run run = new Run().add(Check.TYPED, 0, 0x4142, 2);
            int[] others = new int[2 * between];
            for (int i = 0; i < between; i++) {
                run.add(Check.TYPED, 0, i, 1);
                others[2 * i] = 0x19;
                others[2 * i + 1] = i;
            }
            run.add(Check.TYPED, 1, 0x4142, 2);
            int k = between + 1;
            int[] last = k <= 20 ? Check.row(0x01, 1, k) : Check.row(0x21, 1, 0x41, 0x42);
            due("with " + between + " between", run,
                Check.joined(Check.row(between + 2, 0x29, 0x41, 0x42), others, last));
        }
    }

    /** "(the least such k)". */
    private static void leastOfSeveral() {
        due("the least k", new Run()
            .add(Check.TYPED, 1, 0x4142, 2)
            .add(Check.TYPED, 2, 0x4142, 2)
            .add(Check.TYPED, 3, 0x43, 1)
            .add(Check.TYPED, 4, 0x4142, 2),
            4, 0x21, 1, 0x41, 0x42, 0x01, 2, 1, 0x11, 3, 0x43, 0x01, 4, 2);
    }

    /** k counts TYPED events alone, so others between do not make it more. */
    private static void othersDoNotCount() {
        Run run = new Run().add(Check.TYPED, 0, 0x4142, 2);
        int[] others = new int[200];
        for (int i = 0; i < 200; i++) {
            run.add(Check.SWITCH, 0, i % 2 + 1, 0);
            others[i] = i % 2 == 0 ? 0x18 : 0x28;
        }
        due("k over 200 others", run.add(Check.TYPED, 0, 0x4142, 2), Check.joined(
            Check.row(202, 1, 0x29, 0x41, 0x42), others, Check.row(0x09, 1)));
    }

    /** k counts events, not entries. */
    private static void typedBehindRuns() {
        for (int n = 1; n <= 15; n++) {
            due("k over a run of " + n, new Run()
                .add(Check.TYPED, 0, 0x4142, 2)
                .addTimes(n + 1, Check.TYPED, 0, 0x43, 1)
                .add(Check.TYPED, 0, 0x4142, 2),
                n + 3, 0x29, 0x41, 0x42, 0x19, 0x43, 16 * n + 5, 0x09, n + 2);
        }
        due("k 20 over a run", new Run()
            .add(Check.TYPED, 0, 0x4142, 2)
            .addTimes(19, Check.TYPED, 0, 0x43, 1)
            .add(Check.TYPED, 0, 0x4142, 2),
            21, 0x29, 0x41, 0x42, 0x19, 0x43, 0x05, 18, 0x09, 20);
        due("too far over a run", new Run()
            .add(Check.TYPED, 0, 0x4142, 2)
            .addTimes(20, Check.TYPED, 0, 0x43, 1)
            .add(Check.TYPED, 0, 0x4142, 2),
            22, 0x29, 0x41, 0x42, 0x19, 0x43, 0x05, 19, 0x29, 0x41, 0x42);
        // The last of a run is the latest one, however long the run is.
        due("k into a run", new Run()
            .addTimes(100, Check.TYPED, 0, 0x4142, 2)
            .add(Check.TYPED, 1, 0x4142, 2),
            101, 0x29, 0x41, 0x42, 0x05, 99, 0x01, 1, 1);
    }

    /** "CLOCK with X 1, if it can be". */
    private static void clockAgain() {
        due("CLOCK", new Run()
            .add(Check.CLOCK, 1, 0, 0)
            .add(Check.CLOCK, 2, 0, 0)
            .add(Check.CLOCK, 2, 9, 0)
            .add(Check.SWITCH, 2, 9, 0)
            .add(Check.CLOCK, 2, 9, 0)
            .add(Check.CLOCK, 2, 0, 0)
            .add(Check.CLOCK, 3, 9, 0)
            .add(Check.CLOCK, 4, Check.FARTHEST, 0)
            .add(Check.CLOCK, 5, Check.FARTHEST, 0),
            9, 0x03, 1, 0, 0x13, 2, 0x0B, 9, 0x98, 0x1B, 0x0B, 0, 0x03, 3, 9,
            0x03, 4, 128, 128, 128, 128, 128, 32, 0x13, 5);
    }

    /** The CLOCK event before may be any number of events before. */
    private static void clockFarBack() {
        Run run = new Run().add(Check.CLOCK, 0, 9, 0);
        int[] others = new int[298];
        for (int i = 0; i < others.length; i++) {
            run.add(Check.SWITCH, 0, i % 2 + 1, 0);
            others[i] = i % 2 == 0 ? 0x18 : 0x28;
        }
        due("CLOCK over 298 others", run.add(Check.CLOCK, 0, 9, 0), Check.joined(
            Check.row(0xAC, 2, 0x0B, 9), others, Check.row(0x1B)));
    }

    /** "the log is this then": nothing of the log before stays. */
    private static void logIsReplaced() {
        Run run = Run.written(1, 2, 3, 4, 5, 6, 7, 8).add(Check.SWITCH, 0, 2, 0);
        due("over a longer log", run, 1, 0x28);
        due("over a shorter log", run.add(Check.SWITCH, 1, 3, 0), 2, 0x28, 0x30, 1);
        due("the same again", run, 2, 0x28, 0x30, 1);
        due("over the longest log", Run.full().pack().drop(0).add(Check.SWITCH, 0, 2, 0), 1, 0x28);
    }

    /** An entry means events before it, never those of a packing before. */
    private static void packedAgain() {
        Run run = new Run()
            .add(Check.TYPED, 1, 0x4142, 2)
            .add(Check.CLOCK, 2, 9, 0)
            .add(Check.TYPED, 3, 0x4142, 2)
            .add(Check.CLOCK, 4, 9, 0);
        int[] once = {4, 0x21, 1, 0x41, 0x42, 0x03, 2, 9, 0x01, 3, 1, 0x13, 4};
        due("packed once", run, once);
        due("packed twice", run, once);
        due("packed behind size()", run.tried(EventLog::size), once);
        due("the last two alone", run.drop(0).add(Check.TYPED, 3, 0x4142, 2)
            .add(Check.CLOCK, 4, 9, 0), 2, 0x21, 3, 0x41, 0x42, 0x03, 4, 9);
    }

    private static void eventsStay() {
        check.same("events behind pack()", Run.some().pack().events(), Run.some().events());
        check.same("300 events behind pack()", Run.full().pack().events(), Run.full().events());
        check.same("no events behind pack()", new Run().pack().answer(log -> log.count(0)), 0);
    }

    private static void shortestOfAll() {
        due("300 alike", new Run().addTimes(300, Check.SWITCH, 0, 0, 0),
            0xAC, 2, 0x08, 0x05, 0xAB, 2);
    }

    private static void longestOfAll() {
        int[] due = new int[300 * 15];
        for (int i = 0; i < 300; i++) {
            long difference = Check.FARTHEST - i;
            due[15 * i] = 0x81;
            for (int j = 0; j < 6; j++) {
                due[15 * i + 1 + j] = (int) (difference >> (7 * j)) & 127 | (j < 5 ? 128 : 0);
            }
            due[15 * i + 13] = i / 256;
            due[15 * i + 14] = i % 256;
        }
        due("300 of the longest", Run.full(), Check.joined(Check.row(0xAC, 2), due));
    }
}
