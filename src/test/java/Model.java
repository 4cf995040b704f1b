import java.util.ArrayList;
import java.util.List;
import java.util.NoSuchElementException;

/**
 * A second program by the same document. It shares nothing with EventLog and is written another
 * way: lists that grow, a fault that is thrown, the whole past searched each time.
 */
final class Model {
    /** An event; b is 0 where it isn't named. */
    record Event(int kind, long difference, long a, int b) {
        boolean bringsAs(Event other) {
            return kind == other.kind && a == other.a && b == other.b;
        }
    }

    private static final class Fault extends Exception {
        private static final long serialVersionUID = 1;
        final int answer;

        Fault(int which, int place) {
            answer = -1 - (which + 8 * place);
        }
    }

    private static final long FARTHEST = 1L << 40;

    private List<Event> events = new ArrayList<>();
    private List<Integer> log = new ArrayList<>();
    private int place;

    int add(int kind, long difference, long a, int b) {
        boolean process = 0 <= a && a <= 15;
        boolean[] fine = {process, 1 <= b && b <= 8, process && 1 <= b && b <= 31,
            0 <= a && a <= FARTHEST, true};
        if (kind < 0 || kind > 4 || difference < 0 || difference > FARTHEST || !fine[kind]) {
            throw new IllegalArgumentException();
        }
        if (events.size() == 300) {
            throw new IllegalStateException();
        }
        long held = a;
        if (kind == 1) {
            held = 0;
            for (int i = b - 1; i >= 0; i--) {
                held = held * 256 + (a >> 8 * i & 255);
            }
        } else if (kind == 4) {
            held = Integer.toUnsignedLong((int) a);
        }
        events.add(new Event(kind, difference, held, kind == 1 || kind == 2 ? b : 0));
        return events.size();
    }

    int drop(int n) {
        if (n < 0 || n > events.size()) {
            throw new IllegalArgumentException();
        }
        int gone = events.size() - n;
        events = new ArrayList<>(events.subList(0, n));
        return gone;
    }

    int pack() {
        log = flat(entries());
        return log.size();
    }

    int size() {
        return flat(entries()).size();
    }

    int read() {
        try {
            events = eventsOfLog();
            return events.size();
        } catch (Fault fault) {
            return fault.answer;
        }
    }

    void poke(int i, int b) {
        if ((b & 255) != b) {
            throw new IllegalArgumentException();
        }
        if (i < 0 || i > log.size()) {
            throw new IndexOutOfBoundsException();
        }
        if (i == 5000) {
            throw new IllegalStateException();
        }
        if (i == log.size()) {
            log.add(b);
        } else {
            log.set(i, b);
        }
    }

    int cut(int n) {
        if (n < 0 || n > log.size()) {
            throw new IndexOutOfBoundsException();
        }
        int gone = log.size() - n;
        log = new ArrayList<>(log.subList(0, n));
        return gone;
    }

    int byteAt(int i) {
        if (i < 0 || i >= log.size()) {
            throw new IndexOutOfBoundsException();
        }
        return log.get(i);
    }

    long event(int k, int what) {
        if (k < 0 || k >= events.size()) {
            throw new NoSuchElementException();
        }
        Event event = events.get(k);
        return switch (what) {
            case 0 -> event.kind;
            case 1 -> event.difference;
            case 2 -> event.a;
            case 3 -> event.b;
            case 4 -> sum(k);
            default -> throw new IllegalArgumentException();
        };
    }

    int at(long c) {
        for (int k = events.size() - 1; k >= 0; k--) {
            if (sum(k) <= c) {
                return k;
            }
        }
        return -1;
    }

    int count(int what) {
        List<List<Integer>> entries = entries();
        entries.remove(0);
        return switch (what) {
            case 0 -> events.size();
            case 1 -> log.size();
            case 2 -> entries.size();
            case 3 -> (int) entries.stream().filter(e -> (e.get(0) & 7) == 5).count();
            case 4 -> (int) entries.stream().filter(e -> (e.get(0) & 8) == 8).count();
            case 5 -> (int) entries.stream().filter(e -> (e.get(0) & 0xF7) == 1).count();
            default -> -1;
        };
    }

    private long sum(int k) {
        return events.stream().limit(k + 1L).mapToLong(Event::difference).sum();
    }

    private static List<Integer> flat(List<List<Integer>> rows) {
        List<Integer> all = new ArrayList<>();
        rows.forEach(all::addAll);
        return all;
    }

    /** What packing gives: first the number of events, then a row for each entry. */
    private List<List<Integer>> entries() {
        List<List<Integer>> rows = new ArrayList<>();
        rows.add(varint(events.size()));
        int i = 0;
        while (i < events.size()) {
            int end = i;
            while (i > 0 && end < events.size() && events.get(end).equals(events.get(i - 1))) {
                end++;
            }
            if (end == i) {
                rows.add(entry(i));
                i++;
                continue;
            }
            List<Integer> run = new ArrayList<>();
            int n = end - i;
            run.add(n > 15 ? 5 : 5 + 16 * n);
            if (n > 15) {
                run.addAll(varint(n));
            }
            rows.add(run);
            i = end;
        }
        return rows;
    }

    private List<Integer> entry(int i) {
        Event event = events.get(i);
        List<Event> before = events.subList(0, i);
        long usual = i == 0 ? 0 : events.get(i - 1).difference;
        int x = 0;
        List<Integer> behind = new ArrayList<>();
        if (event.kind == 0) {
            x = (int) event.a;
        } else if (event.kind == 1) {
            int k = event.b > 1 ? backTo(before, event) : 0;
            x = k > 0 ? 0 : event.b;
            behind = k > 0 ? varint(k) : bytes(event.a, event.b);
        } else if (event.kind == 2) {
            x = (int) event.a;
            behind.add(event.b);
        } else if (event.kind == 3) {
            List<Event> clocks = of(3, before);
            x = !clocks.isEmpty() && clocks.get(clocks.size() - 1).a == event.a ? 1 : 0;
            behind = x == 1 ? behind : varint(event.a);
        } else {
            behind = bytes(event.a, 4);
        }
        List<Integer> row = new ArrayList<>();
        row.add(event.kind + (event.difference == usual ? 8 : 0) + 16 * x);
        if (event.difference != usual) {
            row.addAll(varint(event.difference));
        }
        row.addAll(behind);
        return row;
    }

    private static List<Event> of(int kind, List<Event> some) {
        return some.stream().filter(e -> e.kind == kind).toList();
    }

    private static int backTo(List<Event> before, Event event) {
        List<Event> typed = of(1, before);
        for (int i = typed.size() - 1; i >= 0 && i >= typed.size() - 20; i--) {
            if (typed.get(i).bringsAs(event)) {
                return typed.size() - i;
            }
        }
        return 0;
    }

    private static List<Integer> bytes(long value, int n) {
        List<Integer> row = new ArrayList<>();
        for (int i = 0; i < n; i++) {
            row.add(0, (int) (value >> 8 * i & 255));
        }
        return row;
    }

    private static List<Integer> varint(long value) {
        List<Integer> row = new ArrayList<>();
        if (value >= 128) {
            row.add((int) (value % 128 + 128));
            row.addAll(varint(value / 128));
        } else {
            row.add((int) value);
        }
        return row;
    }

    private List<Event> eventsOfLog() throws Fault {
        place = 0;
        List<Event> found = new ArrayList<>();
        long said = takeVarint();
        if (said > 300) {
            throw new Fault(6, 0);
        }
        while (found.size() < said) {
            takeEntry(found, said);
        }
        if (place != log.size()) {
            throw new Fault(7, place);
        }
        return found;
    }

    private void takeEntry(List<Event> found, long said) throws Fault {
        int start = place;
        int head = take();
        int kind = head % 8;
        boolean same = head / 8 % 2 == 1;
        int x = head / 16;
        if (kind > 5 || kind == 1 && x > 8 || kind == 3 && x > 1 || kind == 4 && x != 0
            || kind == 5 && same) {
            throw new Fault(1, start);
        }
        if (kind == 5) {
            takeRun(found, said, start, x);
            return;
        }
        long difference = 0;
        if (!same) {
            difference = takeVarint();
        } else if (!found.isEmpty()) {
            difference = found.get(found.size() - 1).difference;
        }
        long a = x;
        int b = 0;
        if (kind == 1 && x == 0) {
            long k = takeAtLeastOne();
            List<Event> typed = of(1, found);
            if (k > typed.size()) {
                throw new Fault(4, start);
            }
            Event meant = typed.get((int) (typed.size() - k));
            a = meant.a;
            b = meant.b;
        } else if (kind == 1) {
            a = takeBytes(x);
            b = x;
        } else if (kind == 2) {
            b = take();
            if (b < 1 || b > 31) {
                throw new Fault(5, place - 1);
            }
        } else if (kind == 3 && x == 0) {
            a = takeVarint();
        } else if (kind == 3) {
            List<Event> clocks = of(3, found);
            if (clocks.isEmpty()) {
                throw new Fault(4, start);
            }
            a = clocks.get(clocks.size() - 1).a;
        } else if (kind == 4) {
            a = takeBytes(4);
        }
        found.add(new Event(kind, difference, a, b));
    }

    private void takeRun(List<Event> found, long said, int start, int x) throws Fault {
        if (found.isEmpty()) {
            throw new Fault(4, start);
        }
        long n = x > 0 ? x : takeAtLeastOne();
        if (found.size() + n > said) {
            throw new Fault(6, start);
        }
        for (long i = 0; i < n; i++) {
            found.add(found.get(found.size() - 1));
        }
    }

    private int take() throws Fault {
        if (place == log.size()) {
            throw new Fault(2, place);
        }
        return log.get(place++);
    }

    private long takeBytes(int n) throws Fault {
        long value = 0;
        for (int i = 0; i < n; i++) {
            value = value * 256 + take();
        }
        return value;
    }

    private long takeAtLeastOne() throws Fault {
        int start = place;
        long value = takeVarint();
        if (value == 0) {
            throw new Fault(5, start);
        }
        return value;
    }

    private long takeVarint() throws Fault {
        int start = place;
        int b = take();
        while (b >= 128 && place < start + 7) {
            b = take();
        }
        long value = 0;
        for (int i = place - 1; i >= start; i--) {
            value = value * 128 + log.get(i) % 128;
        }
        if (b >= 128 || value > FARTHEST || varint(value).size() != place - start) {
            throw new Fault(3, place - 1);
        }
        return value;
    }
}
