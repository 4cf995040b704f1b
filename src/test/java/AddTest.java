/** Promise 2: add, and the bounds of events. */
public final class AddTest {
    private static final int[] ANY_B = {-1, 0, 1, 9, 32, Integer.MIN_VALUE, Integer.MAX_VALUE};

    private static final Check check = new Check();

    public static void main(String[] args) {
        ordinaryEvents();
        kinds();
        differences();
        processesOfSwitch();
        lengthsOfTyped();
        bytesOfTyped();
        lowestBytesOfTyped();
        highestByteFirst();
        processesOfSignal();
        numbersOfSignal();
        clocks();
        randomWords();
        secondPartIsNotLookedAt();
        atMostThreeHundred();
        threeHundredByReading();
        wrongOnesAreRefusedWhenFullToo();
        roomAgain();
        logStays();
        check.end();
    }

    private static String told(int kind, long difference, long a, int b) {
        return "add(" + kind + ", " + difference + ", " + a + ", " + b + ")";
    }

    private static void taken(int kind, long difference, long a, int b) {
        taken(kind, difference, a, b, a, b);
    }

    private static void taken(int kind, long difference, long a, int b, long heldA, int heldB) {
        String call = told(kind, difference, a, b);
        EventLog log = new EventLog();
        try {
            check.same(call, log.add(kind, difference, a, b), 1);
            check.sameEvent(log, 0, kind, difference, heldA, heldB);
            check.same("the sum behind " + call, log.event(0, 4), difference);
        } catch (RuntimeException e) {
            check.isTrue(call + " is taken, but threw " + e, false);
        }
    }

    private static void refused(int kind, long difference, long a, int b) {
        String call = told(kind, difference, a, b);
        for (Run run : new Run[] {new Run(), Run.some()}) {
            check.isRefused(call, IllegalArgumentException.class, run,
                log -> log.add(kind, difference, a, b));
        }
    }

    /** "Adds an event: kind, difference, and a and b"; "Answers how many events there are." */
    private static void ordinaryEvents() {
        EventLog log = new EventLog();
        check.same("add 1", log.add(Check.SWITCH, 10, 3, 0), 1);
        check.same("add 2", log.add(Check.TYPED, 11, 0x616263, 2), 2);
        check.same("add 3", log.add(Check.SIGNAL, 12, 4, 9), 3);
        check.same("add 4", log.add(Check.CLOCK, 13, 1000, 0), 4);
        check.same("add 5", log.add(Check.RANDOM, 14, 5, 0), 5);
        check.sameEvent(log, 0, Check.SWITCH, 10, 3, 0);
        check.sameEvent(log, 1, Check.TYPED, 11, 0x6263, 2);
        check.sameEvent(log, 2, Check.SIGNAL, 12, 4, 9);
        check.sameEvent(log, 3, Check.CLOCK, 13, 1000, 0);
        check.sameEvent(log, 4, Check.RANDOM, 14, 5, 0);
    }

    /** The kinds are 0 .. 4; 5 is a RUN in the log, and no event. */
    private static void kinds() {
        for (int kind = 0; kind <= 4; kind++) {
            EventLog log = new EventLog();
            check.same("add of kind " + kind, log.add(kind, 0, 1, 1), 1);
            check.same("the kind", log.event(0, 0), kind);
        }
        for (int kind : new int[] {-1, 5, 6, 7, 8, 256, Integer.MIN_VALUE, Integer.MAX_VALUE}) {
            refused(kind, 0, 1, 1);
        }
    }

    /** "a DIFFERENCE (0 .. 2^40)". */
    private static void differences() {
        for (int kind = 0; kind <= 4; kind++) {
            int b = kind == Check.TYPED || kind == Check.SIGNAL ? 1 : 0;
            for (long difference : new long[] {0, 1, Check.FARTHEST - 1, Check.FARTHEST}) {
                taken(kind, difference, 1, b);
            }
            for (long difference : new long[] {-1, Check.FARTHEST + 1, 2 * Check.FARTHEST,
                -Check.FARTHEST, Long.MIN_VALUE, Long.MAX_VALUE}) {
                refused(kind, difference, 1, b);
            }
        }
    }

    /** "SWITCH: a process 0 .. 15". */
    private static void processesOfSwitch() {
        taken(Check.SWITCH, 0, 0, 0);
        taken(Check.SWITCH, 0, 15, 0);
        for (long a : new long[] {-1, 16, 1L << 32, -1L << 32, Long.MIN_VALUE, Long.MAX_VALUE}) {
            refused(Check.SWITCH, 0, a, 0);
        }
    }

    /** "TYPED: 1 to 8 bytes". */
    private static void lengthsOfTyped() {
        for (int b = 1; b <= 8; b++) {
            taken(Check.TYPED, 0, 1, b);
        }
        for (int b : new int[] {-1, 0, 9, 16, 256 + 1, Integer.MIN_VALUE, Integer.MAX_VALUE}) {
            refused(Check.TYPED, 0, 1, b);
        }
    }

    /** "bytes 0 .. 255". */
    private static void bytesOfTyped() {
        for (int b = 1; b <= 8; b++) {
            long all = -1L >>> (64 - 8 * b);
            taken(Check.TYPED, 0, 0, b);
            taken(Check.TYPED, 0, all, b);
            taken(Check.TYPED, 0, all ^ all >>> 1, b);
        }
    }

    /** "TYPED the b lowest bytes of a": the others do not matter. */
    private static void lowestBytesOfTyped() {
        long[] due = {0xF8L, 0xF7F8L, 0xF6F7F8L, 0xF5F6F7F8L, 0xF4F5F6F7F8L, 0xF3F4F5F6F7F8L,
            0xF2F3F4F5F6F7F8L, 0xF1F2F3F4F5F6F7F8L};
        for (int b = 1; b <= 8; b++) {
            taken(Check.TYPED, 0, 0xF1F2F3F4F5F6F7F8L, b, due[b - 1], b);
            taken(Check.TYPED, 0, Long.MIN_VALUE, b, b == 8 ? Long.MIN_VALUE : 0, b);
        }
        taken(Check.TYPED, 0, -1, 1, 255, 1);
        taken(Check.TYPED, 0, 256, 1, 0, 1);
    }

    /** "(the highest of these first)": what was typed first stands first in the log. */
    private static void highestByteFirst() {
        for (int b = 1; b <= 8; b++) {
            int[] due = new int[b];
            for (int i = 0; i < b; i++) {
                due[i] = 0xF8 - (b - 1 - i);
            }
            check.same("the log of " + b + " bytes",
                new Run().add(Check.TYPED, 0, 0xF1F2F3F4F5F6F7F8L, b).pack().bytes(),
                Check.joined(Check.row(1, 16 * b + 9), due));
        }
    }

    /** "SIGNAL: a process 0 .. 15". */
    private static void processesOfSignal() {
        taken(Check.SIGNAL, 0, 0, 9);
        taken(Check.SIGNAL, 0, 15, 9);
        for (long a : new long[] {-1, 16, 1L << 32, -1L << 32, Long.MIN_VALUE, Long.MAX_VALUE}) {
            refused(Check.SIGNAL, 0, a, 9);
        }
    }

    /** "and a number 1 .. 31". */
    private static void numbersOfSignal() {
        taken(Check.SIGNAL, 0, 9, 1);
        taken(Check.SIGNAL, 0, 9, 31);
        for (int b : new int[] {-1, 0, 32, 256 + 1, Integer.MIN_VALUE, Integer.MAX_VALUE}) {
            refused(Check.SIGNAL, 0, 9, b);
        }
    }

    /** "CLOCK: how far it goes, 0 .. 2^40". */
    private static void clocks() {
        for (long a : new long[] {0, 1, Check.FARTHEST - 1, Check.FARTHEST}) {
            taken(Check.CLOCK, 0, a, 0);
        }
        for (long a : new long[] {-1, Check.FARTHEST + 1, 2 * Check.FARTHEST, Long.MIN_VALUE,
            Long.MAX_VALUE}) {
            refused(Check.CLOCK, 0, a, 0);
        }
    }

    /** "RANDOM the word a (taken as its lowest 32 bits)": no a is refused. */
    private static void randomWords() {
        taken(Check.RANDOM, 0, 0, 0);
        taken(Check.RANDOM, 0, 0x7FFFFFFFL, 0);
        taken(Check.RANDOM, 0, 0x80000000L, 0);
        taken(Check.RANDOM, 0, 0xFFFFFFFFL, 0);
        taken(Check.RANDOM, 0, 0x100000000L, 0, 0, 0);
        taken(Check.RANDOM, 0, 0x123456789ABCDEFL, 0, 0x89ABCDEFL, 0);
        taken(Check.RANDOM, 0, -1, 0, 0xFFFFFFFFL, 0);
        taken(Check.RANDOM, 0, Long.MIN_VALUE, 0, 0, 0);
        taken(Check.RANDOM, 0, Long.MAX_VALUE, 0, 0xFFFFFFFFL, 0);
    }

    /** "b is not looked at where it isn't named." */
    private static void secondPartIsNotLookedAt() {
        for (int b : ANY_B) {
            taken(Check.SWITCH, 0, 1, b, 1, 0);
            taken(Check.CLOCK, 0, 1, b, 1, 0);
            taken(Check.RANDOM, 0, 1, b, 1, 0);
        }
    }

    /** "EVENTS, at most 300"; "IllegalStateException when there are 300." */
    private static void atMostThreeHundred() {
        EventLog log = new EventLog();
        for (int i = 1; i <= 300; i++) {
            check.same("add " + i, log.add(Check.CLOCK, 1, i, 0), i);
        }
        check.same("the last one", log.event(299, 2), 300);
        for (int kind = 0; kind <= 4; kind++) {
            int another = kind;
            check.isRefused("add of kind " + kind + " as the 301st", IllegalStateException.class,
                Run.full(), full -> full.add(another, 0, 1, 1));
        }
    }

    private static void threeHundredByReading() {
        Run almost = Run.written(0xAB, 2, 0x18, 0x05, 0xAA, 2).read();
        check.same("add behind 299 read",
            almost.answer(log -> log.add(Check.SWITCH, 0, 1, 0)), 300);
        Run full = Run.written(0xAC, 2, 0x18, 0x05, 0xAB, 2).read();
        check.isRefused("add behind 300 read", IllegalStateException.class, full,
            log -> log.add(Check.SWITCH, 0, 1, 0));
    }

    /** "IllegalArgumentException when something is not as said; else IllegalStateException". */
    private static void wrongOnesAreRefusedWhenFullToo() {
        Run full = Run.full();
        refusedFirst(full, 5, 0, 1, 1);
        refusedFirst(full, Check.SWITCH, -1, 1, 1);
        refusedFirst(full, Check.SWITCH, 0, 16, 1);
        refusedFirst(full, Check.TYPED, 0, 1, 0);
        refusedFirst(full, Check.SIGNAL, 0, -1, 1);
        refusedFirst(full, Check.SIGNAL, 0, 1, 32);
        refusedFirst(full, Check.CLOCK, 0, Check.FARTHEST + 1, 0);
        refusedFirst(full, Check.RANDOM, Check.FARTHEST + 1, 0, 0);
    }

    private static void refusedFirst(Run full, int kind, long difference, long a, int b) {
        check.isRefused(told(kind, difference, a, b) + " as the 301st",
            IllegalArgumentException.class, full, log -> log.add(kind, difference, a, b));
    }

    private static void roomAgain() {
        Run run = Run.full().drop(299);
        check.same("add behind drop(299)", run.answer(log -> log.add(Check.CLOCK, 1, 5, 0)), 300);
        check.isRefused("add as the 301st again", IllegalStateException.class,
            run.add(Check.CLOCK, 1, 5, 0), log -> log.add(Check.CLOCK, 1, 5, 0));
    }

    /** An event comes, and nothing else changes: neither the log nor the events before. */
    private static void logStays() {
        for (int kind = 0; kind <= 4; kind++) {
            check.same("the log of none", new Run().add(kind, 1, 1, 1).bytes(), Check.row());
            check.same("the log", Run.some().add(kind, 1, 1, 1).bytes(), Check.row(2, 0x18, 0x28));
            check.same("the events before", Run.some().add(kind, 1, 1, 1).drop(5).events(),
                Run.some().events());
        }
    }
}
