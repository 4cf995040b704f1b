import java.util.NoSuchElementException;

/**
 * A codec for recordings: events, each so much behind the one before, are packed into a log of
 * bytes by one rule, and read from any log of its grammar.
 */
public final class EventLog {
    private static final int MOST_EVENTS = 300;
    private static final int MOST_BYTES = 5000;
    /** 2^40: the bound of a difference, of how far a clock goes, and of every varint. */
    private static final long FARTHEST = 1099511627776L;
    private static final long LOWEST_32_BITS = 4294967295L;

    private static final int SWITCH = 0;
    private static final int TYPED = 1;
    private static final int SIGNAL = 2;
    private static final int CLOCK = 3;
    private static final int RANDOM = 4;
    private static final int RUN = 5;

    private static final int KIND_BITS = 7;
    private static final int SAME = 8;
    private static final int X_SHIFT = 4;
    private static final int MOST_X = 15;

    private static final int MOST_PROCESS = 15;
    private static final int MOST_SIGNAL = 31;
    private static final int MOST_TYPED = 8;
    private static final int RANDOM_BYTES = 4;
    private static final int FEWEST_REPEATED = 2;
    private static final int FARTHEST_REPEATED = 20;
    private static final int LONGEST_VARINT = 7;

    private static final int NO_FAULT = 0;
    private static final int BAD_HEAD = 1;
    private static final int LOG_ENDS = 2;
    private static final int BAD_VARINT = 3;
    private static final int NONE_BEFORE = 4;
    private static final int BAD_NUMBER = 5;
    private static final int TOO_MANY = 6;
    private static final int BYTE_BEHIND = 7;

    private static final int NOWHERE = -1;

    private Events events;
    /** Reading fills this one, so that a fault leaves the events as they were. */
    private Events spare;
    private final Bytes log;
    private final Packer packer;
    private final Reader reader;

    public EventLog() {
        events = new Events();
        spare = new Events();
        Bytes bytes = new Bytes();
        log = bytes;
        packer = new Packer(bytes);
        reader = new Reader(bytes);
    }

    public int add(int kind, long difference, long a, int b)
            throws IllegalArgumentException, IllegalStateException {
        if (!isEvent(kind, difference, a, b)) {
            throw new IllegalArgumentException("not an event");
        }
        if (events.number() >= MOST_EVENTS) {
            throw new IllegalStateException("there are 300 events");
        }
        events.append(kind, difference, heldA(kind, a, b), heldB(kind, b));
        return events.number();
    }

    public int drop(int n) throws IllegalArgumentException {
        int before = events.number();
        if (n < 0 || n > before) {
            throw new IllegalArgumentException("not a number of events");
        }
        events.keepFirst(n);
        return before - n;
    }

    public int pack() {
        packer.run(events, true);
        return packer.bytes();
    }

    public int size() {
        packer.run(events, false);
        return packer.bytes();
    }

    public int read() {
        int answer = reader.run(spare);
        if (answer >= 0) {
            Events former = events;
            events = spare;
            spare = former;
        }
        return answer;
    }

    public void poke(int i, int b)
            throws IllegalArgumentException, IndexOutOfBoundsException, IllegalStateException {
        if (b < 0 || b > 255) {
            throw new IllegalArgumentException("not a byte");
        }
        if (i < 0 || i > log.length()) {
            throw new IndexOutOfBoundsException("not a place in the log or its end");
        }
        if (i >= MOST_BYTES) {
            throw new IllegalStateException("the log has 5000 bytes");
        }
        if (i == log.length()) {
            log.append(b);
        } else {
            log.put(i, b);
        }
    }

    public int cut(int n) throws IndexOutOfBoundsException {
        int before = log.length();
        if (n < 0 || n > before) {
            throw new IndexOutOfBoundsException("not a length up to the log's");
        }
        log.keepFirst(n);
        return before - n;
    }

    public int byteAt(int i) throws IndexOutOfBoundsException {
        if (i < 0 || i >= log.length()) {
            throw new IndexOutOfBoundsException("no such byte");
        }
        return log.get(i);
    }

    public long event(int k, int what) throws NoSuchElementException, IllegalArgumentException {
        if (!events.has(k)) {
            throw new NoSuchElementException("no such event");
        }
        switch (what) {
            case 0:
                return events.kind(k);
            case 1:
                return events.difference(k);
            case 2:
                return events.a(k);
            case 3:
                return events.b(k);
            case 4:
                return events.sumUpTo(k);
            default:
                throw new IllegalArgumentException("nothing that an event has");
        }
    }

    public int at(long c) {
        return events.lastWithSumUpTo(c);
    }

    public int count(int what) {
        if (what == 0) {
            return events.number();
        }
        if (what == 1) {
            return log.length();
        }
        packer.run(events, false);
        switch (what) {
            case 2:
                return packer.entries();
            case 3:
                return packer.runs();
            case 4:
                return packer.sames();
            case 5:
                return packer.repeats();
            default:
                return -1;
        }
    }

    private static boolean isEvent(int kind, long difference, long a, int b) {
        if (difference < 0 || difference > FARTHEST) {
            return false;
        }
        switch (kind) {
            case SWITCH:
                return isProcess(a);
            case TYPED:
                return b >= 1 && b <= MOST_TYPED;
            case SIGNAL:
                return isProcess(a) && isSignal(b);
            case CLOCK:
                return a >= 0 && a <= FARTHEST;
            case RANDOM:
                return true;
            default:
                return false;
        }
    }

    private static boolean isProcess(long a) {
        return a >= 0 && a <= MOST_PROCESS;
    }

    private static boolean isSignal(int b) {
        return b >= 1 && b <= MOST_SIGNAL;
    }

    /** Events are held without bits that don't count, so that like ones are held alike. */
    private static long heldA(int kind, long a, int b) {
        if (kind == RANDOM) {
            return a & LOWEST_32_BITS;
        }
        // A shift by 64 would be one by 0, and all eight bytes count anyway.
        if (kind == TYPED && b < MOST_TYPED) {
            return a & ((1L << (8 * b)) - 1);
        }
        return a;
    }

    private static int heldB(int kind, int b) {
        return kind == TYPED || kind == SIGNAL ? b : 0;
    }

    /** A row of events in columns that are made once. */
    private static final class Events {
        private final int[] kinds = new int[MOST_EVENTS];
        private final long[] differences = new long[MOST_EVENTS];
        private final long[] partsA = new long[MOST_EVENTS];
        private final int[] partsB = new int[MOST_EVENTS];
        private int number;

        int number() {
            return number;
        }

        boolean has(int i) {
            return i >= 0 && i < number && i < MOST_EVENTS;
        }

        int kind(int i) {
            return has(i) ? kinds[i] : 0;
        }

        long difference(int i) {
            return has(i) ? differences[i] : 0;
        }

        long a(int i) {
            return has(i) ? partsA[i] : 0;
        }

        int b(int i) {
            return has(i) ? partsB[i] : 0;
        }

        void append(int kind, long difference, long a, int b) {
            if (number < 0 || number >= MOST_EVENTS) {
                return;
            }
            kinds[number] = kind;
            differences[number] = difference;
            partsA[number] = a;
            partsB[number] = b;
            number++;
        }

        void keepFirst(int n) {
            if (n >= 0 && n < number) {
                number = n;
            }
        }

        boolean bringTheSame(int i, int j) {
            return has(i) && has(j) && kinds[i] == kinds[j]
                && partsA[i] == partsA[j] && partsB[i] == partsB[j];
        }

        /** SAME of the first event means 0, so 0 stands for the difference before it. */
        boolean hasDifferenceBefore(int i) {
            return difference(i) == difference(i - 1);
        }

        boolean isLikeBefore(int i) {
            return hasDifferenceBefore(i) && bringTheSame(i, i - 1);
        }

        long sumUpTo(int k) {
            long sum = 0;
            for (int i = 0; i <= k && i < number; i++) {
                sum += difference(i);
            }
            return sum;
        }

        int lastWithSumUpTo(long c) {
            long sum = 0;
            for (int i = 0; i < number; i++) {
                sum += difference(i);
                if (sum > c) {
                    return i - 1;
                }
            }
            return number - 1;
        }
    }

    /** The log's bytes, 0 .. 255 each. */
    private static final class Bytes {
        private final int[] row = new int[MOST_BYTES];
        private int length;

        int length() {
            return length;
        }

        int get(int i) {
            return i >= 0 && i < length && i < MOST_BYTES ? row[i] : 0;
        }

        void put(int i, int b) {
            if (i >= 0 && i < length && i < MOST_BYTES) {
                row[i] = b;
            }
        }

        void append(int b) {
            if (length >= 0 && length < MOST_BYTES) {
                row[length] = b;
                length++;
            }
        }

        void keepFirst(int n) {
            if (n >= 0 && n < length) {
                length = n;
            }
        }
    }

    /** The events gone by that a later entry can mean: every TYPED one and the latest CLOCK. */
    private static final class Past {
        private final int[] typed = new int[MOST_EVENTS];
        private int typedNumber;
        private int clock = NOWHERE;

        void forget() {
            typedNumber = 0;
            clock = NOWHERE;
        }

        void note(int kind, int place) {
            if (kind == CLOCK) {
                clock = place;
            }
            if (kind == TYPED && typedNumber >= 0 && typedNumber < MOST_EVENTS) {
                typed[typedNumber] = place;
                typedNumber++;
            }
        }

        int latestClock() {
            return clock;
        }

        /** The place of the k-th TYPED event before, 1 being the latest one. */
        int typedBefore(long k) {
            if (k < 1 || k > typedNumber || k > MOST_EVENTS) {
                return NOWHERE;
            }
            int i = typedNumber - (int) k;
            return i < MOST_EVENTS ? typed[i] : NOWHERE;
        }
    }

    /** Packs events into the log, or only counts what packing would give. */
    private static final class Packer {
        private final Bytes log;
        private final Past past = new Past();
        private boolean writes;
        private int bytes;
        private int entries;
        private int runs;
        private int sames;
        private int repeats;

        Packer(Bytes log) {
            this.log = log;
        }

        int bytes() {
            return bytes;
        }

        int entries() {
            return entries;
        }

        int runs() {
            return runs;
        }

        int sames() {
            return sames;
        }

        int repeats() {
            return repeats;
        }

        void run(Events events, boolean intoLog) {
            begin(intoLog);
            packVarint(events.number());
            int alike = 0;
            for (int i = 0; i < events.number(); i++) {
                if (events.isLikeBefore(i)) {
                    alike++;
                } else {
                    packRun(alike);
                    alike = 0;
                    packEntry(events, i);
                }
                past.note(events.kind(i), i);
            }
            packRun(alike);
        }

        private void begin(boolean intoLog) {
            writes = intoLog;
            if (writes) {
                log.keepFirst(0);
            }
            past.forget();
            bytes = 0;
            entries = 0;
            runs = 0;
            sames = 0;
            repeats = 0;
        }

        private void packRun(int n) {
            if (n <= 0) {
                return;
            }
            entries++;
            runs++;
            if (n <= MOST_X) {
                packByte(RUN | n << X_SHIFT);
            } else {
                packByte(RUN);
                packVarint(n);
            }
        }

        private void packEntry(Events events, int i) {
            boolean same = events.hasDifferenceBefore(i);
            int k = repeated(events, i);
            int x = headX(events, i, k);
            entries++;
            packByte(events.kind(i) | (same ? SAME : 0) | x << X_SHIFT);
            if (same) {
                sames++;
            } else {
                packVarint(events.difference(i));
            }
            if (k > 0) {
                repeats++;
                packVarint(k);
            } else {
                packBrought(events, i, x);
            }
        }

        /** The least k by which a TYPED event can name its bytes; 0 for none. */
        private int repeated(Events events, int i) {
            if (events.kind(i) != TYPED || events.b(i) < FEWEST_REPEATED) {
                return 0;
            }
            for (int k = 1; k <= FARTHEST_REPEATED; k++) {
                if (events.bringTheSame(i, past.typedBefore(k))) {
                    return k;
                }
            }
            return 0;
        }

        private int headX(Events events, int i, int k) {
            switch (events.kind(i)) {
                case SWITCH:
                case SIGNAL:
                    return (int) events.a(i);
                case TYPED:
                    return k > 0 ? 0 : events.b(i);
                case CLOCK:
                    return events.bringTheSame(i, past.latestClock()) ? 1 : 0;
                default:
                    return 0;
            }
        }

        private void packBrought(Events events, int i, int x) {
            switch (events.kind(i)) {
                case TYPED:
                    packBytes(events.a(i), events.b(i));
                    break;
                case SIGNAL:
                    packByte(events.b(i));
                    break;
                case CLOCK:
                    if (x == 0) {
                        packVarint(events.a(i));
                    }
                    break;
                case RANDOM:
                    packBytes(events.a(i), RANDOM_BYTES);
                    break;
                default:
                    break;
            }
        }

        /** The n lowest bytes, the highest of these first. */
        private void packBytes(long value, int n) {
            for (int j = n - 1; j >= 0; j--) {
                packByte((int) (value >>> (8 * j)) & 255);
            }
        }

        private void packVarint(long value) {
            long rest = value;
            for (int j = 1; j < LONGEST_VARINT && rest > 127; j++) {
                packByte((int) (rest & 127) | 128);
                rest >>>= 7;
            }
            packByte((int) (rest & 127));
        }

        private void packByte(int b) {
            bytes++;
            if (writes) {
                log.append(b);
            }
        }
    }

    /**
     * Reads the log. A step that meets a fault notes it and answers anything; who called it asks
     * for the fault before it goes on, so that the first one is told.
     */
    private static final class Reader {
        private final Bytes log;
        private final Past past = new Past();
        private int place;
        private int fault;
        private int faultPlace;

        Reader(Bytes log) {
            this.log = log;
        }

        /** How many events the log has, which are in into then, or the answer for its fault. */
        int run(Events into) {
            begin(into);
            long said = readVarint(0);
            if (isFine() && said > MOST_EVENTS) {
                fail(TOO_MANY, 0);
            }
            for (int n = 0; n < MOST_EVENTS && isFine() && into.number() < said; n++) {
                readEntry(into, said);
            }
            if (isFine() && place < log.length()) {
                fail(BYTE_BEHIND, place);
            }
            return isFine() ? into.number() : -1 - (fault + 8 * faultPlace);
        }

        private void begin(Events into) {
            into.keepFirst(0);
            past.forget();
            place = 0;
            fault = NO_FAULT;
            faultPlace = 0;
        }

        private boolean isFine() {
            return fault == NO_FAULT;
        }

        private void fail(int which, int where) {
            fault = which;
            faultPlace = where;
        }

        private void readEntry(Events into, long said) {
            int headPlace = place;
            int head = readByte();
            if (isFine() && !isHead(head)) {
                fail(BAD_HEAD, headPlace);
            }
            if (!isFine()) {
                return;
            }
            int kind = head & KIND_BITS;
            int x = head >> X_SHIFT;
            if (kind == RUN) {
                readRun(into, said, x, headPlace);
                return;
            }
            boolean same = (head & SAME) != 0;
            long difference = same ? into.difference(into.number() - 1) : readVarint(0);
            if (!isFine()) {
                return;
            }
            if (isMeaningAnother(kind, x)) {
                readLikeAnother(into, kind, difference, headPlace);
            } else {
                readOwn(into, kind, difference, x);
            }
        }

        private static boolean isHead(int head) {
            int x = head >> X_SHIFT;
            switch (head & KIND_BITS) {
                case SWITCH:
                case SIGNAL:
                    return true;
                case TYPED:
                    return x <= MOST_TYPED;
                case CLOCK:
                    return x <= 1;
                case RANDOM:
                    return x == 0;
                case RUN:
                    return (head & SAME) == 0;
                default:
                    return false;
            }
        }

        private void readRun(Events into, long said, int x, int headPlace) {
            int last = into.number() - 1;
            if (last < 0) {
                fail(NONE_BEFORE, headPlace);
                return;
            }
            long n = x == 0 ? readVarint(1) : x;
            if (isFine() && n > said - into.number()) {
                fail(TOO_MANY, headPlace);
            }
            if (!isFine()) {
                return;
            }
            for (int j = 0; j < n && j < MOST_EVENTS; j++) {
                keep(into, into.kind(last), into.difference(last), into.a(last), into.b(last));
            }
        }

        private static boolean isMeaningAnother(int kind, int x) {
            return kind == TYPED && x == 0 || kind == CLOCK && x == 1;
        }

        /** TYPED with k, or CLOCK as far as the one before. */
        private void readLikeAnother(Events into, int kind, long difference, int headPlace) {
            int meant = kind == CLOCK ? past.latestClock() : past.typedBefore(readVarint(1));
            if (isFine() && !into.has(meant)) {
                fail(NONE_BEFORE, headPlace);
            }
            if (isFine()) {
                keep(into, kind, difference, into.a(meant), into.b(meant));
            }
        }

        private void readOwn(Events into, int kind, long difference, int x) {
            long a = x;
            int b = 0;
            switch (kind) {
                case TYPED:
                    a = readBytes(x);
                    b = x;
                    break;
                case SIGNAL:
                    b = readSignal();
                    break;
                case CLOCK:
                    a = readVarint(0);
                    break;
                case RANDOM:
                    a = readBytes(RANDOM_BYTES);
                    break;
                default:
                    break;
            }
            if (isFine()) {
                keep(into, kind, difference, a, b);
            }
        }

        private int readSignal() {
            int numberPlace = place;
            int number = readByte();
            if (isFine() && !isSignal(number)) {
                fail(BAD_NUMBER, numberPlace);
            }
            return number;
        }

        private void keep(Events into, int kind, long difference, long a, int b) {
            past.note(kind, into.number());
            into.append(kind, difference, a, b);
        }

        private long readVarint(int least) {
            int firstPlace = place;
            long value = 0;
            for (int j = 0; j < LONGEST_VARINT; j++) {
                int b = readByte();
                if (!isFine()) {
                    return 0;
                }
                value |= (long) (b & 127) << (7 * j);
                if (b < 128) {
                    boolean longer = b == 0 && j > 0;
                    if (longer || value > FARTHEST) {
                        fail(BAD_VARINT, place - 1);
                    } else if (value < least) {
                        fail(BAD_NUMBER, firstPlace);
                    }
                    return value;
                }
            }
            fail(BAD_VARINT, place - 1);
            return 0;
        }

        private long readBytes(int n) {
            long value = 0;
            for (int j = 0; j < n && isFine(); j++) {
                value = value << 8 | readByte();
            }
            return value;
        }

        private int readByte() {
            if (place >= log.length()) {
                fail(LOG_ENDS, log.length());
                return 0;
            }
            int b = log.get(place);
            place++;
            return b;
        }
    }
}
