import java.util.Arrays;

/** Promise 6: read, and the seven faults. */
public final class ReadTest {
    private static final Check check = new Check();

    public static void main(String[] args) {
        eachKind();
        everyForm();
        readsBackWhatIsPacked();
        badHeads();
        goodHeads();
        ends();
        badVarints();
        noneBefore();
        orderOfNoneBefore();
        badNumbers();
        tooMany();
        bytesBehind();
        nothingChangesOnFault();
        eventsAreReplaced();
        earlierReadsAreForgotten();
        check.end();
    }

    private static void due(int answer, int... bytes) {
        EventLog log = Check.withLog(bytes);
        check.same("read() of " + Arrays.toString(bytes), log.read(), answer);
        check.same("the log behind read()", Check.bytes(log), bytes);
    }

    private static void faulty(int which, int place, int... bytes) {
        due(Check.fault(which, place), bytes);
    }

    private static void eachKind() {
        EventLog log = Check.withLog(6,
            0xF0, 1,
            0x81, 2, 0xFF, 2, 3, 4, 5, 6, 7, 8,
            0x21, 3, 0xFF, 0,
            0x92, 4, 31,
            0x03, 5, 0xAC, 2,
            0x04, 6, 0xA1, 0xB2, 0xC3, 0xD4);
        check.same("read()", log.read(), 6);
        check.same("count(0)", log.count(0), 6);
        check.sameEvent(log, 0, Check.SWITCH, 1, 15, 0);
        check.sameEvent(log, 1, Check.TYPED, 2, 0xFF02030405060708L, 8);
        check.sameEvent(log, 2, Check.TYPED, 3, 0xFF00, 2);
        check.sameEvent(log, 3, Check.SIGNAL, 4, 9, 31);
        check.sameEvent(log, 4, Check.CLOCK, 5, 300, 0);
        check.sameEvent(log, 5, Check.RANDOM, 6, 0xA1B2C3D4L, 0);
    }

    /** The grammar allows more than packing writes. */
    private static void everyForm() {
        EventLog log = Check.withLog(12,
            0x18,
            0x10, 0,
            0x05, 1,
            0x11, 7, 0x41,
            0x09, 1,
            0x21, 7, 0x42, 0x43,
            0x15,
            0x01, 8, 3,
            0x03, 7, 9,
            0x03, 7, 9,
            0x1B,
            0x10, 7);
        check.same("read() of every form", log.read(), 12);
        check.sameEvent(log, 0, Check.SWITCH, 0, 1, 0);
        check.sameEvent(log, 1, Check.SWITCH, 0, 1, 0);
        check.sameEvent(log, 2, Check.SWITCH, 0, 1, 0);
        check.sameEvent(log, 3, Check.TYPED, 7, 0x41, 1);
        check.sameEvent(log, 4, Check.TYPED, 7, 0x41, 1);
        check.sameEvent(log, 5, Check.TYPED, 7, 0x4243, 2);
        check.sameEvent(log, 6, Check.TYPED, 7, 0x4243, 2);
        check.sameEvent(log, 7, Check.TYPED, 8, 0x41, 1);
        check.sameEvent(log, 8, Check.CLOCK, 7, 9, 0);
        check.sameEvent(log, 9, Check.CLOCK, 7, 9, 0);
        check.sameEvent(log, 10, Check.CLOCK, 7, 9, 0);
        check.sameEvent(log, 11, Check.SWITCH, 7, 1, 0);

        EventLog far = Check.withLog(33, 0x21, 1, 0x41, 0x42, 0x19, 0x43, 0x05, 30, 0x09, 32);
        check.same("read() with k 32", far.read(), 33);
        check.sameEvent(far, 31, Check.TYPED, 1, 0x43, 1);
        check.sameEvent(far, 32, Check.TYPED, 1, 0x4142, 2);
        due(300, 0xAC, 2, 0x18, 0x05, 0xAB, 2);
        due(0, 0);
    }

    private static void readsBackWhatIsPacked() {
        EventLog log = new EventLog();
        for (int i = 0; i < 300; i++) {
            log.add(i / 2 % 5, i / 2 % 3 * 1000L, i % 16, i % 8 + 1);
        }
        EventLog other = Check.withLog(Check.packed(log));
        check.same("read()", other.read(), 300);
        for (int k = 0; k < 300; k++) {
            check.sameEvent(other, k, log.event(k, 0), log.event(k, 1), log.event(k, 2),
                log.event(k, 3));
        }
    }

    private static void badHeads() {
        for (int head = 0; head < 256; head++) {
            int kind = head & 7;
            int x = head >> 4;
            boolean bad = kind > 5 || kind == 1 && x > 8 || kind == 3 && x > 1
                || kind == 4 && x > 0 || kind == 5 && (head & 8) != 0;
            if (bad) {
                faulty(1, 1, 1, head);
                faulty(1, 2, 2, 0x18, head, 0, 0, 0, 0, 0);
            }
        }
    }

    private static void goodHeads() {
        for (int x = 0; x < 16; x++) {
            due(1, 1, x << 4 | 8);
            due(1, 1, x << 4 | 8 | 2, 1);
        }
        for (int x = 1; x <= 8; x++) {
            due(1, Check.joined(Check.row(1, x << 4 | 9), new int[x]));
        }
        for (int x = 1; x < 16; x++) {
            due(x + 1, x + 1, 0x18, x << 4 | 5);
        }
    }

    private static void ends() {
        faulty(2, 0);
        faulty(2, 1, 128);
        faulty(2, 1, 1);
        faulty(2, 2, 2, 0x18);
        faulty(2, 2, 1, 0x10);
        faulty(2, 3, 1, 0x10, 200);
        faulty(2, 8, 1, 0x10, 255, 255, 255, 255, 255, 255);
        faulty(2, 2, 1, 0x19);
        faulty(2, 9, 1, 0x89, 1, 2, 3, 4, 5, 6, 7);
        faulty(2, 2, 1, 0x09);
        faulty(2, 2, 1, 0x1A);
        faulty(2, 2, 1, 0x0B);
        faulty(2, 5, 1, 0x0C, 1, 2, 3);
        faulty(2, 2, 1, 0x0C);
        faulty(2, 3, 2, 0x18, 0x05);
        faulty(2, 4, 2, 0x18, 0x05, 128);
    }

    private static void badVarints() {
        int[] farthest = {128, 128, 128, 128, 128, 32};
        int[] farther = {129, 128, 128, 128, 128, 32};
        int[] six = {255, 255, 255, 255, 255, 127};
        int[] longerSix = {128, 128, 128, 128, 128, 0};
        int[] sevenEnding = {128, 128, 128, 128, 128, 128, 1};
        int[] sevenEmpty = {128, 128, 128, 128, 128, 160, 0};
        int[] sevenOpen = {128, 128, 128, 128, 128, 128, 128};
        int[][] sixes = {farther, six, longerSix};
        int[][] sevens = {sevenEnding, sevenEmpty, sevenOpen};
        int[][] fronts = {{}, {1, 0x10}, {1, 0x0B}, {2, 0x19, 0x41, 0x09}, {2, 0x18, 0x05}};
        for (int[] front : fronts) {
            for (int[] bad : sixes) {
                faulty(3, front.length + 5, Check.joined(front, bad));
            }
            for (int[] bad : sevens) {
                faulty(3, front.length + 6, Check.joined(front, bad));
            }
            faulty(3, front.length + 1, Check.joined(front, Check.row(129, 0)));
            faulty(3, front.length + 1, Check.joined(front, Check.row(128, 0)));
            faulty(3, front.length + 2, Check.joined(front, Check.row(129, 129, 0)));
        }
        due(1, Check.joined(Check.row(1, 0x10), farthest));
        due(1, Check.joined(Check.row(1, 0x0B), farthest));
    }

    private static void noneBefore() {
        faulty(4, 1, 1, 0x05);
        faulty(4, 1, 1, 0x15);
        faulty(4, 1, 1, 0x09, 1);
        faulty(4, 1, 1, 0x01, 5, 1);
        faulty(4, 2, 2, 0x18, 0x09, 1);
        faulty(4, 3, 2, 0x19, 0x41, 0x09, 2);
        faulty(4, 4, 4, 0x19, 0x41, 0x15, 0x09, 3);
        faulty(4, 1, 1, 0x1B);
        faulty(4, 2, 2, 0x18, 0x1B);
        faulty(4, 1, Check.joined(Check.row(1, 0x09), Check.row(128, 128, 128, 128, 128, 32)));
        due(4, 4, 0x19, 0x41, 0x15, 0x09, 2, 0x18);
        due(2, 2, 0x0B, 0, 0x1B);
    }

    /** The difference and k come first, n of a RUN does not. */
    private static void orderOfNoneBefore() {
        faulty(2, 2, 1, 0x13);
        faulty(3, 3, 1, 0x13, 128, 0);
        faulty(4, 1, 1, 0x13, 1);
        faulty(2, 2, 1, 0x01);
        faulty(3, 3, 1, 0x01, 128, 0);
        faulty(2, 3, 1, 0x01, 1);
        faulty(3, 3, 1, 0x09, 128, 0);
        faulty(5, 3, 1, 0x01, 1, 0);
        faulty(4, 1, 1, 0x05, 0);
        faulty(4, 1, 1, 0x05, 128, 0);
        faulty(4, 1, 1, 0xF5);
    }

    private static void badNumbers() {
        faulty(5, 2, 1, 0x1A, 0);
        faulty(5, 2, 1, 0x1A, 32);
        faulty(5, 2, 1, 0x1A, 255);
        faulty(5, 4, 1, 0x12, 128, 1, 0);
        faulty(5, 2, 1, 0x09, 0);
        faulty(5, 4, 2, 0x19, 0x41, 0x09, 0);
        faulty(5, 3, 2, 0x18, 0x05, 0);
        due(1, 1, 0x1A, 1);
        due(1, 1, 0x1A, 31);
    }

    private static void tooMany() {
        faulty(6, 0, 0xAD, 2);
        faulty(6, 0, 0xAD, 2, 0x18);
        faulty(6, 0, 128, 128, 128, 128, 128, 32);
        faulty(6, 2, 2, 0x18, 0x25);
        faulty(6, 2, 2, 0x18, 0x05, 2);
        faulty(6, 2, 2, 0x18, 0x05, 128, 128, 128, 128, 128, 32);
        faulty(6, 3, 3, 0x18, 0x15, 0x25, 0x18);
        faulty(6, 3, 0xAC, 2, 0x18, 0x05, 0xAC, 2);
        faulty(2, 2, 0xAC, 2);
    }

    private static void bytesBehind() {
        faulty(7, 1, 0, 0);
        faulty(7, 1, 0, 0xFF);
        faulty(7, 2, 1, 0x18, 0x0E);
        faulty(7, 2, 1, 0x18, 0x15);
        faulty(7, 3, 2, 0x18, 0x15, 0x15);
        faulty(7, 3, 2, 0x18, 0x28, 0x38, 0x48);
    }

    private static void nothingChangesOnFault() {
        EventLog log = new EventLog();
        log.add(Check.SIGNAL, 3, 4, 5);
        log.add(Check.CLOCK, 3, 4, 0);
        Check.setLog(log, 3, 0x28, 0x38, 0x0E);
        check.same("read() with a fault", log.read(), Check.fault(1, 3));
        check.same("count(0)", log.count(0), 2);
        check.sameEvent(log, 0, Check.SIGNAL, 3, 4, 5);
        check.sameEvent(log, 1, Check.CLOCK, 3, 4, 0);
        check.same("the log", Check.bytes(log), Check.row(3, 0x28, 0x38, 0x0E));
        check.same("read() again", log.read(), Check.fault(1, 3));
    }

    private static void eventsAreReplaced() {
        EventLog log = new EventLog();
        log.add(Check.SIGNAL, 3, 4, 5);
        log.add(Check.CLOCK, 3, 4, 0);
        Check.setLog(log, 1, 0x28);
        check.same("read()", log.read(), 1);
        check.same("count(0)", log.count(0), 1);
        check.sameEvent(log, 0, Check.SWITCH, 0, 2, 0);
        check.same("add behind read()", log.add(Check.SWITCH, 1, 3, 0), 2);
        check.same("the log", Check.bytes(log), Check.row(1, 0x28));
        check.same("read() again", log.read(), 1);
        Check.setLog(log, 0);
        check.same("read() of none", log.read(), 0);
        check.same("count(0) of none", log.count(0), 0);
    }

    /** What an entry means is in its own log, never in one that was read before. */
    private static void earlierReadsAreForgotten() {
        EventLog log = Check.withLog(2, 0x0B, 5, 0x19, 0x41);
        check.same("read() of a CLOCK and a TYPED", log.read(), 2);
        Check.setLog(log, 3, 0x18, 0x28, 0x1B);
        check.same("read() of CLOCK with X 1", log.read(), Check.fault(4, 3));
        Check.setLog(log, 3, 0x18, 0x28, 0x09, 1);
        check.same("read() of TYPED with k 1", log.read(), Check.fault(4, 3));
        Check.setLog(log, 2, 0x19, 0x42, 0x09, 2);
        check.same("read() of TYPED with k 2", log.read(), Check.fault(4, 3));
    }
}
