import java.util.Arrays;

/** Promise 7: poke. */
public final class PokeTest {
    private static final Check check = new Check();

    public static void main(String[] args) {
        byteBecomes();
        oneMoreAtTheEnd();
        valuesOfBytes();
        places();
        placesOfAnEmptyLog();
        placesOfTheLongestPackedLog();
        valuesAreAskedFirst();
        eventsStay();
        fullLog();
        check.end();
    }

    private static void refused(Class<? extends RuntimeException> due, Run run, int i, int b) {
        check.isRefused("poke(" + i + ", " + b + ")", due, run, log -> log.poke(i, b));
    }

    /** "Byte i of the log becomes b". */
    private static void byteBecomes() {
        for (int i = 0; i < 4; i++) {
            int[] due = {1, 2, 3, 4};
            due[i] = 200;
            check.same("poke(" + i + ", 200)", Run.written(1, 2, 3, 4).poke(i, 200).bytes(), due);
        }
    }

    /** "at its end one more". */
    private static void oneMoreAtTheEnd() {
        check.same("of none", new Run().poke(0, 7).bytes(), Check.row(7));
        check.same("of four", Run.written(1, 2, 3, 4).poke(4, 7).bytes(), Check.row(1, 2, 3, 4, 7));
        check.same("of a shorter one", Run.written(1, 2, 3, 4).cut(1).poke(1, 7).bytes(),
            Check.row(1, 7));
    }

    /** "IllegalArgumentException when b is not 0 .. 255". */
    private static void valuesOfBytes() {
        for (int b = 0; b <= 255; b++) {
            check.same("poke(1, " + b + ")", Run.written(1, 2, 3).poke(1, b).bytes(),
                Check.row(1, b, 3));
            check.same("poke(3, " + b + ")", Run.written(1, 2, 3).poke(3, b).bytes(),
                Check.row(1, 2, 3, b));
        }
        for (int b : new int[] {-1, 256, -256, 512, Integer.MIN_VALUE, Integer.MAX_VALUE}) {
            refused(IllegalArgumentException.class, Run.some(), 0, b);
            refused(IllegalArgumentException.class, Run.some(), 3, b);
            refused(IllegalArgumentException.class, new Run(), 0, b);
        }
    }

    /** "else IndexOutOfBoundsException when i is not 0 .. its length". */
    private static void places() {
        for (int i : new int[] {-1, 4, 5, 4999, 5000, Integer.MIN_VALUE, Integer.MAX_VALUE}) {
            refused(IndexOutOfBoundsException.class, Run.some(), i, 0);
            refused(IndexOutOfBoundsException.class, Run.some(), i, 255);
        }
    }

    private static void placesOfAnEmptyLog() {
        for (int i : new int[] {-1, 1, 5000, Integer.MIN_VALUE, Integer.MAX_VALUE}) {
            refused(IndexOutOfBoundsException.class, new Run(), i, 1);
        }
        // A byte that was there once is no place.
        refused(IndexOutOfBoundsException.class, Run.written(1, 2, 3).cut(0), 1, 1);
        refused(IndexOutOfBoundsException.class, Run.written(1, 2, 3).cut(0), 3, 1);
    }

    private static void placesOfTheLongestPackedLog() {
        int length = Check.LONGEST_PACKED;
        int[] due = Run.full().pack().bytes();
        due[length - 1] = 99;
        check.same("the last byte", Run.full().pack().poke(length - 1, 99).bytes(), due);
        int[] longer = Arrays.copyOf(due, length + 1);
        longer[length] = 98;
        check.same("one more", Run.full().pack().poke(length - 1, 99).poke(length, 98).bytes(),
            longer);
        refused(IndexOutOfBoundsException.class, Run.full().pack(), length + 1, 1);
    }

    /** "IllegalArgumentException when b [..]; else IndexOutOfBoundsException when i". */
    private static void valuesAreAskedFirst() {
        for (int b : new int[] {-1, 256}) {
            for (int i : new int[] {-1, 4, 5000, 5001, Integer.MIN_VALUE, Integer.MAX_VALUE}) {
                refused(IllegalArgumentException.class, Run.some(), i, b);
            }
        }
    }

    private static void eventsStay() {
        check.same("events", Run.some().poke(0, 9).poke(3, 9).events(), Run.some().events());
    }

    /**
     * "IllegalStateException when it has 5000 and one more is wanted." What is asked here is free,
     * since no 512 calls can fill the log; without it the sentence would go untested.
     */
    private static void fullLog() {
        EventLog log = new EventLog();
        for (int i = 0; i < 4999; i++) {
            log.poke(i, i % 256);
        }
        isThrown(IndexOutOfBoundsException.class, log, 5000, 1);
        log.poke(4999, 1);
        int[] due = Check.bytes(log);
        check.same("a full log", due.length, 5000);
        isThrown(IllegalStateException.class, log, 5000, 0);
        isThrown(IllegalStateException.class, log, 5000, 255);
        isThrown(IllegalArgumentException.class, log, 5000, -1);
        isThrown(IllegalArgumentException.class, log, 5000, 256);
        isThrown(IndexOutOfBoundsException.class, log, 5001, 1);
        isThrown(IndexOutOfBoundsException.class, log, -1, 1);
        check.same("the log behind refused calls", Check.bytes(log), due);
        log.poke(4999, 77);
        check.same("the last byte", log.byteAt(4999), 77);
        check.same("still full", log.count(1), 5000);
        isThrownByByteAt(log, 5000);
        check.same("cut(5000)", log.cut(5000), 0);
        check.same("cut(4999)", log.cut(4999), 1);
        log.poke(4999, 78);
        check.same("full again", log.byteAt(4999), 78);
    }

    private static void isThrown(Class<? extends RuntimeException> due, EventLog log, int i,
            int b) {
        check.isThrown("poke(" + i + ", " + b + ")", due, () -> log.poke(i, b));
    }

    private static void isThrownByByteAt(EventLog log, int i) {
        check.isThrown("byteAt(" + i + ")", IndexOutOfBoundsException.class, () -> log.byteAt(i));
    }
}
