import java.util.Arrays;

/** Every log of at most four bytes out of those that matter, read beside the model. */
public final class SmallLogsTest {
    private static final int MOST_CALLS = 512;
    private static final int LONGEST = 4;
    private static final int WHATS = 5;
    /** Numbers at their edges, heads of each kind with each X that matters, and no heads. */
    private static final int[] BYTES = {0, 1, 2, 3, 31, 32, 127, 128, 129, 255,
        0x18, 0x09, 0x11, 0x19, 0x81, 0x91, 0x0A, 0x12, 0x0B, 0x13, 0x1B, 0x23, 0x04, 0x0C, 0x14,
        0x05, 0x15, 0x25, 0x0D, 0x06, 0x0F};

    private static final Check check = new Check();

    private final Model model = new Model();
    private EventLog log = new EventLog();
    private int calls;

    public static void main(String[] args) {
        new SmallLogsTest().readAll(new int[0]);
        check.end();
    }

    private void readAll(int[] bytes) {
        read(bytes);
        if (bytes.length == LONGEST) {
            return;
        }
        int[] longer = Arrays.copyOf(bytes, bytes.length + 1);
        for (int b : BYTES) {
            longer[bytes.length] = b;
            readAll(longer);
        }
    }

    private void read(int[] bytes) {
        if (calls + 1 + LONGEST + 1 + WHATS > MOST_CALLS) {
            log = new EventLog();
            calls = 0;
        }
        log.cut(0);
        model.cut(0);
        for (int i = 0; i < bytes.length; i++) {
            log.poke(i, bytes[i]);
            model.poke(i, bytes[i]);
        }
        calls += 2 + bytes.length;
        int due = model.read();
        String told = Arrays.toString(bytes);
        check.same("read() of " + told, log.read(), due);
        if (due <= 0) {
            return;
        }
        // The last event shows what the entries before it were taken for.
        for (int what = 0; what < WHATS; what++) {
            check.same("event(" + (due - 1) + ", " + what + ") of " + told,
                log.event(due - 1, what), model.event(due - 1, what));
            calls++;
        }
    }
}
