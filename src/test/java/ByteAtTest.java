/** Promise 9: byteAt. */
public final class ByteAtTest {
    private static final int[] FAR = {4999, 5000, Integer.MIN_VALUE, Integer.MAX_VALUE};

    private static final Check check = new Check();

    public static void main(String[] args) {
        eachByte();
        places();
        placesOfNone();
        placesOfTheLongestPacked();
        nothingChanges();
        check.end();
    }

    private static void refused(Run run, int... places) {
        for (int i : places) {
            check.isRefused("byteAt(" + i + ")", IndexOutOfBoundsException.class, run,
                log -> log.byteAt(i));
        }
    }

    private static void due(Run run, int i, int b) {
        check.same("byteAt(" + i + ")", run.answer(log -> log.byteAt(i)), b);
    }

    /** "Byte i of the log.": 0 .. 255, never less than 0. */
    private static void eachByte() {
        for (int b = 0; b <= 255; b++) {
            due(Run.written(b), 0, b);
        }
    }

    /** "IndexOutOfBoundsException when there is none." */
    private static void places() {
        Run run = Run.written(0, 127, 128, 255);
        due(run, 0, 0);
        due(run, 1, 127);
        due(run, 2, 128);
        due(run, 3, 255);
        refused(run, -1, 4, 5);
        refused(run, FAR);
    }

    private static void placesOfNone() {
        refused(new Run(), -1, 0, 1);
        refused(new Run(), FAR);
        refused(Run.written(1, 2, 3).cut(1), 1, 2);
        refused(Run.written(1, 2, 3).cut(0), 0);
        // A shorter log takes the place of a longer one.
        refused(Run.written(1, 2, 3).pack(), 1, 2);
    }

    private static void placesOfTheLongestPacked() {
        Run run = Run.full().pack();
        due(run, 0, 0xAC);
        due(run, 1, 2);
        due(run, Check.LONGEST_PACKED - 1, 299 % 256);
        refused(run, -1, Check.LONGEST_PACKED);
        refused(run, FAR);
    }

    private static void nothingChanges() {
        check.leavesAll("byteAt(0)", Run.some(), log -> log.byteAt(0));
    }
}
