import java.util.Arrays;

/** Promise 6: the seven faults of a log, each with its place; VarintTest has most of fault 3. */
public final class FaultTest {
    private static final Check check = new Check();

    public static void main(String[] args) {
        badHeads();
        goodHeads();
        everyEnd();
        endsOfTheLongestLog();
        badVarints();
        runAsTheFirstEntry();
        tooFewTyped();
        noClock();
        whenNoneBeforeIsAsked();
        numbersOfSignals();
        noKAndNoN();
        moreThanSaid();
        whenMoreThanSaidIsAsked();
        moreThanThreeHundredSaid();
        bytesBehind();
        bytesBehindTheLongestLog();
        theFirstFaultIsTold();
        nothingChanges();
        aFaultIsMended();
        check.end();
    }

    private static void due(int answer, int... bytes) {
        String what = "read() of " + Arrays.toString(bytes);
        Run run = Run.some().write(bytes);
        check.same(what, run.answer(EventLog::read), answer);
        if (answer < 0) {
            check.leavesAll(what, run, EventLog::read);
        }
    }

    /** "-1 - (the fault + 8 * its place)". */
    private static void faulty(int which, int place, int... bytes) {
        due(-1 - (which + 8 * place), bytes);
    }

    private static boolean isBadHead(int head) {
        int kind = head & 7;
        int x = head >> 4;
        return kind > 5 || kind == 1 && x > 8 || kind == 3 && x > 1 || kind == 4 && x > 0
            || kind == 5 && (head & 8) != 0;
    }

    /** "1 a head that is not as said [..], at it." */
    private static void badHeads() {
        for (int head = 0; head < 256; head++) {
            if (isBadHead(head)) {
                faulty(1, 1, 1, head);
                faulty(1, 2, 2, 0x18, head, 0, 0, 0, 0, 0);
                faulty(1, 5, 3, 0x19, 0x41, 0x0B, 9, head, 1, 1);
            }
        }
    }

    /** Every other head is none: the first fault is then another one, or there is none. */
    private static void goodHeads() {
        for (int head = 0; head < 256; head++) {
            if (!isBadHead(head)) {
                int[] log = {3, 0x19, 0x41, 0x0B, 9, head, 1, 1, 1, 1, 1, 1, 1, 1, 1};
                int answer = (int) Run.written(log).answer(EventLog::read);
                check.isTrue("head " + head + " has no fault 1",
                    answer >= 0 || (-1 - answer) % 8 != 1);
            }
        }
        for (int x = 0; x <= 15; x++) {
            due(1, 1, 16 * x + 8);
            due(1, 1, 16 * x, 1);
            due(1, 1, 16 * x + 10, 1);
            due(1, 1, 16 * x + 2, 1, 1);
        }
        for (int x = 1; x <= 8; x++) {
            due(1, Check.joined(Check.row(1, 16 * x + 9), new int[x]));
            due(1, Check.joined(Check.row(1, 16 * x + 1, 1), new int[x]));
        }
        due(2, 2, 0x0B, 0, 0x1B);
        due(2, 2, 0x03, 1, 0, 0x13, 1);
        due(1, 1, 0x0C, 1, 2, 3, 4);
    }

    /** "2 the end, where a byte must be (at the place behind the last)." */
    private static void everyEnd() {
        faulty(2, 0);
        int[][] logs = {
            {1, 0x18},
            {128, 1, 0x18, 0x05, 127},
            {1, 0x10, 128, 128, 128, 128, 128, 32},
            {1, 0x89, 1, 2, 3, 4, 5, 6, 7, 8},
            {1, 0x81, 128, 1, 1, 2, 3, 4, 5, 6, 7, 8},
            {2, 0x19, 0x41, 0x01, 128, 1, 1},
            {130, 1, 0x19, 0x41, 0x05, 128, 1, 0x09, 129, 1},
            {1, 0x12, 128, 1, 31},
            {2, 0x03, 128, 1, 128, 1, 0x13, 128, 1},
            {1, 0x04, 128, 1, 1, 2, 3, 4},
            {0xAC, 2, 0x18, 0x05, 0xAB, 2}};
        for (int[] log : logs) {
            check.isTrue(Arrays.toString(log) + " has no fault",
                Run.written(log).answer(EventLog::read) > 0);
            for (int length = 0; length < log.length; length++) {
                faulty(2, length, Arrays.copyOf(log, length));
            }
        }
    }

    private static void endsOfTheLongestLog() {
        Run run = Run.full().pack();
        int length = Check.LONGEST_PACKED;
        check.same("read() of the longest", run.answer(EventLog::read), 300);
        for (int n = length - 1; n >= 0; n -= n > length - 20 ? 1 : 449) {
            int shorter = n;
            Run cut = run.tried(log -> log.cut(shorter));
            check.same("read() behind cut(" + n + ")", cut.answer(EventLog::read),
                -1 - (2 + 8 * n));
        }
    }

    /** "3 a varint that is longer than it must be, or above 2^40, at its last byte". */
    private static void badVarints() {
        faulty(3, 1, 128, 0);
        faulty(3, 3, 1, 0x10, 128, 0);
        faulty(3, 3, 1, 0x0B, 128, 0);
        faulty(3, 5, 2, 0x19, 0x41, 0x09, 128, 0);
        faulty(3, 4, 2, 0x18, 0x05, 128, 0);
        faulty(3, 7, 1, 0x10, 129, 128, 128, 128, 128, 32);
        faulty(3, 8, 1, 0x10, 128, 128, 128, 128, 128, 128, 128);
        due(1, 1, 0x10, 128, 128, 128, 128, 128, 32);
        due(1, 1, 0x0B, 128, 128, 128, 128, 128, 32);
    }

    /** "4 there is no event before that is meant (RUN as the first entry [..]), at the head". */
    private static void runAsTheFirstEntry() {
        for (int x = 0; x <= 15; x++) {
            faulty(4, 1, 1, 16 * x + 5);
            faulty(4, 1, 2, 16 * x + 5, 1);
        }
        faulty(4, 2, 0xAC, 2, 0x15);
        due(2, 2, 0x18, 0x15);
    }

    /** "k above how many TYPED ones there are". */
    private static void tooFewTyped() {
        faulty(4, 1, 1, 0x09, 1);
        faulty(4, 1, 1, 0x01, 5, 1);
        faulty(4, 2, 2, 0x18, 0x09, 1);
        due(2, 2, 0x19, 0x41, 0x09, 1);
        faulty(4, 3, 2, 0x19, 0x41, 0x09, 2);
        due(3, 3, 0x19, 0x41, 0x09, 1, 0x09, 2);
        faulty(4, 5, 3, 0x19, 0x41, 0x09, 1, 0x09, 3);
        due(4, 4, 0x19, 0x41, 0x25, 0x09, 3);
        faulty(4, 4, 4, 0x19, 0x41, 0x25, 0x09, 4);
        due(22, 22, 0x19, 0x41, 0x05, 20, 0x09, 21);
        faulty(4, 5, 22, 0x19, 0x41, 0x05, 20, 0x09, 22);
        due(300, 0xAC, 2, 0x19, 0x41, 0x05, 0xAA, 2, 0x09, 0xAB, 2);
        faulty(4, 7, 0xAC, 2, 0x19, 0x41, 0x05, 0xAA, 2, 0x09, 0xAC, 2);
        faulty(4, 3, 2, 0x19, 0x41, 0x09, 128, 128, 128, 128, 128, 32);
        faulty(4, 3, 2, 0x19, 0x41, 0x09, 129, 128, 128, 128, 16);
    }

    /** "CLOCK with X 1 without one". */
    private static void noClock() {
        faulty(4, 1, 1, 0x1B);
        faulty(4, 1, 1, 0x13, 1);
        faulty(4, 2, 2, 0x18, 0x1B);
        faulty(4, 3, 3, 0x18, 0x15, 0x1B);
        due(2, 2, 0x0B, 0, 0x1B);
        due(3, 3, 0x0B, 0, 0x18, 0x1B);
    }

    /** "asked when the difference, and k, are read": not when the n of a RUN is. */
    private static void whenNoneBeforeIsAsked() {
        faulty(2, 2, 1, 0x13);
        faulty(2, 3, 1, 0x13, 128);
        faulty(3, 3, 1, 0x13, 128, 0);
        faulty(4, 1, 1, 0x13, 1);
        faulty(2, 2, 1, 0x01);
        faulty(3, 3, 1, 0x01, 128, 0);
        faulty(2, 3, 1, 0x01, 1);
        faulty(2, 4, 1, 0x01, 1, 128);
        faulty(3, 4, 1, 0x01, 1, 128, 0);
        faulty(5, 3, 1, 0x01, 1, 0);
        faulty(4, 1, 1, 0x01, 1, 1);
        faulty(2, 2, 1, 0x09);
        faulty(3, 3, 1, 0x09, 128, 0);
        faulty(5, 2, 1, 0x09, 0);
        faulty(4, 1, 1, 0x09, 1);
        faulty(4, 1, 1, 0x05);
        faulty(4, 1, 1, 0x05, 0);
        faulty(4, 1, 1, 0x05, 128, 0);
        faulty(4, 1, 1, 0xF5);
        faulty(4, 1, 1, 0x1B, 0xFF);
    }

    /** "5 a number of a SIGNAL that is none [..] at its (first) byte." */
    private static void numbersOfSignals() {
        for (int number = 0; number < 256; number++) {
            if (number >= 1 && number <= 31) {
                due(1, 1, 0x1A, number);
                due(1, 1, 0x12, 128, 1, number);
            } else {
                faulty(5, 2, 1, 0x1A, number);
                faulty(5, 4, 1, 0x12, 128, 1, number);
            }
        }
    }

    /** "a varint k or n that is 0". */
    private static void noKAndNoN() {
        faulty(5, 4, 2, 0x19, 0x41, 0x09, 0);
        due(2, 2, 0x19, 0x41, 0x09, 1);
        faulty(5, 6, 2, 0x19, 0x41, 0x01, 128, 1, 0);
        faulty(5, 2, 1, 0x09, 0);
        faulty(5, 3, 2, 0x18, 0x05, 0);
        faulty(5, 3, 3, 0x18, 0x05, 0, 0x18);
        due(2, 2, 0x18, 0x05, 1);
    }

    /** "6 more events than said [..], at the head that brings the first one too many". */
    private static void moreThanSaid() {
        for (int n = 1; n <= 15; n++) {
            due(n + 1, n + 1, 0x18, 16 * n + 5);
            due(n + 1, n + 1, 0x18, 0x05, n);
            if (n > 1) {
                faulty(6, 2, n, 0x18, 16 * n + 5);
                faulty(6, 2, n, 0x18, 0x05, n);
            }
        }
        faulty(6, 3, 3, 0x18, 0x15, 0x25, 0x18);
        faulty(6, 4, 4, 0x18, 0x10, 1, 0x35);
        due(300, 0xAC, 2, 0x18, 0x05, 0xAB, 2);
        faulty(6, 3, 0xAC, 2, 0x18, 0x05, 0xAC, 2);
        faulty(6, 2, 2, 0x18, 0x05, 128, 128, 128, 128, 128, 32);
        faulty(6, 2, 2, 0x18, 0x05, 129, 128, 128, 128, 16);
    }

    /** "(for a RUN: when its n is read)": what is wrong with n is told before. */
    private static void whenMoreThanSaidIsAsked() {
        faulty(2, 3, 2, 0x18, 0x05);
        faulty(2, 4, 2, 0x18, 0x05, 130);
        faulty(3, 4, 2, 0x18, 0x05, 130, 0);
        faulty(3, 8, 2, 0x18, 0x05, 129, 128, 128, 128, 128, 32);
        faulty(5, 3, 2, 0x18, 0x05, 0);
        faulty(6, 2, 2, 0x18, 0x05, 2, 0xFF);
        faulty(6, 2, 2, 0x18, 0x25, 0xFF);
    }

    /** "also more than 300 said, at the log's first byte." */
    private static void moreThanThreeHundredSaid() {
        due(300, 0xAC, 2, 0x18, 0x05, 0xAB, 2);
        faulty(2, 2, 0xAC, 2);
        faulty(6, 0, 0xAD, 2);
        faulty(6, 0, 0xAD, 2, 0x18, 0x05, 0xAC, 2);
        faulty(6, 0, 0xAD, 2, 0xFF);
        faulty(6, 0, 255, 127);
        faulty(6, 0, 128, 128, 1);
        faulty(6, 0, 129, 128, 128, 128, 16);
        faulty(6, 0, 255, 255, 255, 255, 255, 31);
        faulty(6, 0, 128, 128, 128, 128, 128, 32);
        faulty(3, 5, 129, 128, 128, 128, 128, 32);
        faulty(3, 2, 0xAD, 130, 0);
    }

    /** "7 a byte behind the last event, at it; [..] as soon as all events are there." */
    private static void bytesBehind() {
        for (int b = 0; b < 256; b++) {
            faulty(7, 1, 0, b);
            faulty(7, 2, 1, 0x18, b);
            faulty(7, 3, 2, 0x18, 0x15, b);
            faulty(7, 3, 1, 0x1A, 5, b);
        }
        faulty(7, 2, 1, 0x18, 0x05, 1);
        faulty(7, 3, 2, 0x18, 0x28, 0x38, 0x48);
        faulty(7, 6, 0xAC, 2, 0x18, 0x05, 0xAB, 2, 0x18);
    }

    private static void bytesBehindTheLongestLog() {
        int length = Check.LONGEST_PACKED;
        Run run = Run.full().pack().poke(length, 0);
        check.same("read() of the longest and a byte", run.answer(EventLog::read),
            -1 - (7 + 8 * length));
        for (int i = 1; i < 200; i++) {
            run.poke(length + i, 0x18);
        }
        check.same("read() of the longest and 200 bytes", run.answer(EventLog::read),
            -1 - (7 + 8 * length));
        check.leavesAll("it", run, EventLog::read);
    }

    /** "the first fault, from its first byte to its last". */
    private static void theFirstFaultIsTold() {
        faulty(1, 2, 3, 0x18, 0x0E, 0x1A, 0);
        faulty(5, 3, 3, 0x18, 0x1A, 0, 0x0E);
        faulty(5, 2, 2, 0x1A, 32, 0x1B);
        faulty(4, 2, 3, 0x18, 0x1B, 0x05, 0);
        faulty(3, 3, 2, 0x10, 128, 0, 0x0E);
        faulty(6, 2, 2, 0x18, 0x35, 0x0E);
        faulty(7, 2, 1, 0x18, 0x0E);
        faulty(1, 1, 1, 0x0D);
        faulty(1, 1, 1, 0x0D, 0);
    }

    /** "nothing changes then": whatever there was, and however far the reading came. */
    private static void nothingChanges() {
        int[][] logs = {{}, {3, 0x28, 0x38, 0x0E}, {3, 0x28, 0x38}, {3, 0x28, 0x30, 128, 0},
            {3, 0x28, 0x38, 0x1B}, {3, 0x28, 0x3A, 0}, {3, 0x28, 0x15, 0x25}, {0xAD, 2},
            {2, 0x28, 0x38, 0x48}};
        int[] answers = {-3, -26, -27, -36, -29, -30, -31, -7, -32};
        for (int i = 0; i < logs.length; i++) {
            // What was read before is no more to be lost than what was added.
            Run[] runs = {new Run(), Run.some(), Run.full(), Run.some().read(),
                Run.some().read().read(), Run.full().pack().drop(0).read()};
            for (Run run : runs) {
                run.write(logs[i]);
                check.same("read() of " + Arrays.toString(logs[i]), run.answer(EventLog::read),
                    answers[i]);
                check.leavesAll("read() of " + Arrays.toString(logs[i]), run, EventLog::read);
                check.same("read() again", run.tried(EventLog::read).answer(EventLog::read),
                    answers[i]);
            }
        }
    }

    /** A fault has no part in the next reading. */
    private static void aFaultIsMended() {
        Run run = Run.some().write(3, 0x28, 0x38, 0x0E).read().poke(3, 0x48);
        check.same("read() behind a mended head", run.answer(EventLog::read), 3);
        check.same("its events", run.read().events(), new Run().add(Check.SWITCH, 0, 2, 0)
            .add(Check.SWITCH, 0, 3, 0).add(Check.SWITCH, 0, 4, 0).events());
    }
}
