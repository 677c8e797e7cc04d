import java.util.ArrayList;
import java.util.List;

/**
 * The document told once more, as plainly as lists allow and without sharing a thought with the
 * class: areas hold intervals, intervals hold records, and a cut split is made on a copy that
 * becomes the storage when it is opened.
 */
final class PlainModel {
    private record Entry(long key, int length) {
    }

    private static final class Interval {
        final int number;
        final List<Entry> entries = new ArrayList<>();

        Interval(int number) {
            this.number = number;
        }

        int lengths() {
            return entries.stream().mapToInt(Entry::length).sum();
        }

        Interval copy() {
            Interval copy = new Interval(number);
            copy.entries.addAll(entries);
            return copy;
        }
    }

    private final int room;
    private final int width;
    private final int up;
    private final int down;
    private List<List<Interval>> areas = new ArrayList<>();
    private List<List<Interval>> finished = null;
    private int finishedKind = 0;
    private boolean closed = false;
    private int number = 1;
    private int told = 0;
    private final int[] splits = new int[4];

    PlainModel(int room, int width, int up, int down) {
        this.room = hold(room, 1, 1000);
        this.width = hold(width, 2, 20);
        this.down = hold(down, 1, 100);
        this.up = hold(up, 1, this.down);
        areas.add(new ArrayList<>(List.of(new Interval(number++))));
    }

    private static int hold(int value, int least, int most) {
        return value < least ? least : value > most ? most : value;
    }

    private List<Interval> intervals() {
        List<Interval> all = new ArrayList<>();
        areas.forEach(all::addAll);
        return all;
    }

    private List<Entry> entries() {
        List<Entry> all = new ArrayList<>();
        intervals().forEach(each -> all.addAll(each.entries));
        return all;
    }

    private Interval belongs(long key) {
        Interval found = intervals().get(0);
        for (Interval each : intervals()) {
            if (!each.entries.isEmpty() && each.entries.get(0).key() <= key) {
                found = each;
            }
        }
        return found;
    }

    private List<Interval> areaOf(Interval interval) {
        for (List<Interval> area : areas) {
            if (area.contains(interval)) {
                return area;
            }
        }
        throw new IllegalStateException("an interval without an area");
    }

    private static void insert(Interval interval, long key, int length) {
        int at = 0;
        while (at < interval.entries.size() && interval.entries.get(at).key() < key) {
            at++;
        }
        interval.entries.add(at, new Entry(key, length));
    }

    private void sweep(Interval interval) {
        if (interval.entries.isEmpty() && intervals().size() > 1) {
            List<Interval> area = areaOf(interval);
            area.remove(interval);
            areas.removeIf(List::isEmpty);
        }
    }

    private List<List<Interval>> copyOfAreas() {
        List<List<Interval>> copy = new ArrayList<>();
        for (List<Interval> area : areas) {
            List<Interval> row = new ArrayList<>();
            area.forEach(each -> row.add(each.copy()));
            copy.add(row);
        }
        return copy;
    }

    /** Makes one split; the new interval if it is one for the record alone, else null. */
    private Interval makeSplit(long key) {
        Interval old = belongs(key);
        List<Interval> area = areaOf(old);
        if (area.size() >= width) {
            List<Interval> moved = area.subList(area.size() - width / 2, area.size());
            areas.add(areas.indexOf(area) + 1, new ArrayList<>(moved));
            moved.clear();
            splits[1]++;
            return null;
        }
        Interval fresh = new Interval(number++);
        int at = area.indexOf(old);
        splits[0]++;
        if (old.entries.size() == 1) {
            area.add(key > old.entries.get(0).key() ? at + 1 : at, fresh);
            return fresh;
        }
        int all = old.lengths();
        while (old.entries.size() > 1 && 2 * old.lengths() > all || fresh.entries.isEmpty()) {
            fresh.entries.add(0, old.entries.remove(old.entries.size() - 1));
        }
        area.add(at + 1, fresh);
        return null;
    }

    private void cutSplit(long key) {
        List<List<Interval>> before = copyOfAreas();
        int numberBefore = number;
        int[] splitsBefore = splits.clone();
        Interval own = makeSplit(key);
        if (own != null) {
            sweep(own);
        }
        finishedKind = splits[1] > splitsBefore[1] ? 1 : 0;
        finished = told == 4 ? areas : null;
        areas = before;
        System.arraycopy(splitsBefore, 0, splits, 0, splits.length);
        if (told <= 2) {
            number = numberBefore;
        }
        told = 0;
        closed = true;
    }

    int put(long key, int length) {
        if (closed) {
            return -5;
        }
        if (find(key) != -1) {
            return 0;
        }
        if (length < 1 || length > room || entries().size() >= 600) {
            return -1;
        }
        while (belongs(key).lengths() + length > room) {
            if (told != 0) {
                cutSplit(key);
                return -5;
            }
            Interval own = makeSplit(key);
            if (own != null) {
                insert(own, key, length);
                return 1;
            }
        }
        insert(belongs(key), key, length);
        return 1;
    }

    int find(long key) {
        for (Interval each : intervals()) {
            if (each.entries.stream().anyMatch(entry -> entry.key() == key)) {
                return each.number;
            }
        }
        return -1;
    }

    int next(long key) {
        int greater = (int) entries().stream().filter(entry -> entry.key() > key).count();
        return greater == 0 ? -1 : entries().size() - greater;
    }

    int remove(long key) {
        if (closed) {
            return -5;
        }
        for (Interval each : intervals()) {
            if (each.entries.removeIf(entry -> entry.key() == key)) {
                sweep(each);
                return 1;
            }
        }
        return 0;
    }

    int interval(int i, int what) {
        List<Interval> all = intervals();
        if (i < 0 || i >= all.size() || what < 0 || what > 3) {
            return -1;
        }
        Interval it = all.get(i);
        int[] answers = {it.number, it.entries.size(), it.lengths(), areas.indexOf(areaOf(it))};
        return answers[what];
    }

    int cut(int write) {
        if (closed) {
            return -5;
        }
        if (write < 0 || write > 4) {
            return -1;
        }
        int before = told;
        told = write;
        return before;
    }

    int open() {
        if (!closed) {
            return 0;
        }
        closed = false;
        if (finished == null) {
            splits[2]++;
            return 1;
        }
        areas = finished;
        splits[finishedKind]++;
        splits[3]++;
        return 2;
    }

    int split(int what) {
        return what < 0 || what > 3 ? -1 : splits[what];
    }

    /** The lowest 32 bits, or Long.MIN_VALUE where the document asks for the exception. */
    long index(int level, int i) {
        if (level == 0 && i >= 0 && i < intervals().size()) {
            return firstOf(intervals().get(i));
        }
        if (level == 1 && i >= 0 && i < areas.size()) {
            return firstOf(areas.get(i).get(0));
        }
        return Long.MIN_VALUE;
    }

    private static int firstOf(Interval interval) {
        return interval.entries.isEmpty() ? 0 : (int) interval.entries.get(0).key();
    }

    int reorganise() {
        if (closed) {
            return -5;
        }
        List<Interval> laid = new ArrayList<>();
        for (Entry entry : entries()) {
            Interval last = laid.isEmpty() ? null : laid.get(laid.size() - 1);
            if (last == null || last.lengths() + entry.length() > room * up / down) {
                last = new Interval(number++);
                laid.add(last);
            }
            last.entries.add(entry);
        }
        if (laid.isEmpty()) {
            laid.add(new Interval(number++));
        }
        int each = Math.max(1, width * up / down);
        areas = new ArrayList<>();
        for (int from = 0; from < laid.size(); from += each) {
            areas.add(new ArrayList<>(laid.subList(from, Math.min(laid.size(), from + each))));
        }
        return laid.size();
    }

    long order(int i) {
        List<Entry> all = entries();
        return i < 0 || i >= all.size() ? 0 : all.get(i).key();
    }

    int count(int what) {
        if (what < 0 || what > 5) {
            return -1;
        }
        int lengths = entries().stream().mapToInt(Entry::length).sum();
        int[] answers = {entries().size(), intervals().size(), areas.size(), closed ? 1 : 0,
            number, lengths};
        return answers[what];
    }
}
