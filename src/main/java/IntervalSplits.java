/**
 * Keyed storage: records in intervals, intervals in areas, all in the order of keys.
 *
 * The records stand in one row by their keys; an interval is a stretch of that row and an area a
 * stretch of the intervals. So a split only changes how long the stretches are, and while the
 * storage is closed the stretches simply stay as they were before the split that was cut.
 */
public final class IntervalSplits {
    public static final int NONE = -1;

    private static final int CLOSED = -5;
    private static final int MOST_RECORDS = 600;
    /** Far above what one put can need: a record less in the interval by every second split. */
    private static final int MOST_SPLITS = 4 * MOST_RECORDS;

    private final int room;
    private final int width;
    private final int laidRoom;
    private final int laidWidth;

    private final Row keys = new Row(MOST_RECORDS);
    private final Row lengths = new Row(MOST_RECORDS);
    private final Row numbers = new Row(MOST_RECORDS + 1);
    private final Row sizes = new Row(MOST_RECORDS + 1);
    private final Row spans = new Row(MOST_RECORDS + 1);

    private int nextNumber = 1;
    private int toldCut = 0;

    private boolean closed = false;
    private boolean cutHasRow = false;
    private Kind cutKind = Kind.HALVES;
    private int cutPlace = 0;

    private int intervalSplits = 0;
    private int areaSplits = 0;
    private int undoneSplits = 0;
    private int finishedSplits = 0;

    public IntervalSplits(int interval, int area, int up, int down) {
        int heldDown = heldTo(down, 1, 100);
        int heldUp = heldTo(up, 1, heldDown);
        room = heldTo(interval, 1, 1000);
        width = heldTo(area, 2, 20);
        laidRoom = room * heldUp / heldDown;
        laidWidth = Math.max(1, width * heldUp / heldDown);
        layInterval(0);
    }

    public int put(long key, int length) {
        if (closed) {
            return CLOSED;
        }
        if (positionOf(key) != NONE) {
            return 0;
        }
        if (length < 1 || length > room || keys.size >= MOST_RECORDS) {
            return -1;
        }
        return place(key, length) ? 1 : CLOSED;
    }

    public int find(long key) {
        int position = positionOf(key);
        return position == NONE ? NONE : numbers.intAt(sizes.groupOf(position));
    }

    public int next(long key) {
        int notGreater = notGreaterThan(key);
        return notGreater < keys.size ? notGreater : NONE;
    }

    public int remove(long key) {
        if (closed) {
            return CLOSED;
        }
        int position = positionOf(key);
        if (position == NONE) {
            return 0;
        }
        int holder = sizes.groupOf(position);
        keys.deleteAt(position);
        lengths.deleteAt(position);
        sizes.raise(holder, -1);
        if (sizes.intAt(holder) == 0 && sizes.size > 1) {
            dropInterval(holder);
        }
        return 1;
    }

    public int interval(int i, int what) {
        if (!sizes.holds(i)) {
            return NONE;
        }
        switch (what) {
            case 0:
                return numbers.intAt(i);
            case 1:
                return sizes.intAt(i);
            case 2:
                return lengthsIn(i);
            case 3:
                return spans.groupOf(i);
            default:
                return NONE;
        }
    }

    public int cut(int write) {
        if (closed) {
            return CLOSED;
        }
        if (write < 0 || write > 4) {
            return NONE;
        }
        int before = toldCut;
        toldCut = write;
        return before;
    }

    public int open() {
        if (!closed) {
            return 0;
        }
        closed = false;
        if (!cutHasRow) {
            undoneSplits++;
            return 1;
        }
        finishCutSplit();
        finishedSplits++;
        return 2;
    }

    public int split(int what) {
        switch (what) {
            case 0:
                return intervalSplits;
            case 1:
                return areaSplits;
            case 2:
                return undoneSplits;
            case 3:
                return finishedSplits;
            default:
                return NONE;
        }
    }

    public int index(int level, int i) throws ArrayIndexOutOfBoundsException {
        if (level == 0 && sizes.holds(i)) {
            return lowBitsOfFirstKey(i);
        }
        if (level == 1 && spans.holds(i)) {
            return lowBitsOfFirstKey(spans.sum(0, i));
        }
        throw new ArrayIndexOutOfBoundsException("no such level, interval or area");
    }

    public int verify() {
        return brokenOrders() + brokenRooms() + brokenWidths();
    }

    public int reorganise() {
        if (closed) {
            return CLOSED;
        }
        numbers.size = 0;
        sizes.size = 0;
        spans.size = 0;
        int held = 0;
        int together = 0;
        for (int i = 0; i < lengths.size; i++) {
            int length = lengths.intAt(i);
            if (held > 0 && together + length > laidRoom) {
                layInterval(held);
                held = 0;
                together = 0;
            }
            held++;
            together += length;
        }
        layInterval(held);
        return sizes.size;
    }

    public long order(int i) {
        return keys.at(i);
    }

    public int count(int what) {
        switch (what) {
            case 0:
                return keys.size;
            case 1:
                return sizes.size;
            case 2:
                return spans.size;
            case 3:
                return closed ? 1 : 0;
            case 4:
                return nextNumber;
            case 5:
                return lengths.sum(0, lengths.size);
            default:
                return NONE;
        }
    }

    private static int heldTo(int number, int least, int most) {
        return Math.max(least, Math.min(most, number));
    }

    private int notGreaterThan(long key) {
        int position = 0;
        while (position < keys.size && keys.at(position) <= key) {
            position++;
        }
        return position;
    }

    private int positionOf(long key) {
        int position = notGreaterThan(key) - 1;
        return position >= 0 && keys.at(position) == key ? position : NONE;
    }

    private int lengthsIn(int interval) {
        int start = sizes.sum(0, interval);
        return lengths.sum(start, start + sizes.intAt(interval));
    }

    private int lowBitsOfFirstKey(int interval) {
        return (int) keys.at(sizes.sum(0, interval));
    }

    /** Puts the record, with the splits that it needs; false when one of them was cut. */
    private boolean place(long key, int length) {
        for (int done = 0; done < MOST_SPLITS; done++) {
            // No interval is empty beside others, so the key belongs where its forerunner is.
            int interval = sizes.groupOf(Math.max(0, notGreaterThan(key) - 1));
            if (lengthsIn(interval) + length <= room) {
                insertRecord(interval, key, length);
                return true;
            }
            Kind kind = kindOfSplit(interval);
            if (toldCut != 0) {
                closeAhead(kind, interval);
                return false;
            }
            if (kind == Kind.OWN) {
                giveOwnInterval(interval, key, length);
                return true;
            }
            if (kind == Kind.AREA) {
                splitArea(spans.groupOf(interval));
            } else {
                halveInterval(interval, takeNumber());
            }
        }
        return false;
    }

    private void insertRecord(int interval, long key, int length) {
        int position = notGreaterThan(key);
        keys.insertAt(position, key);
        lengths.insertAt(position, length);
        sizes.raise(interval, 1);
    }

    private Kind kindOfSplit(int interval) {
        if (spans.intAt(spans.groupOf(interval)) >= width) {
            return Kind.AREA;
        }
        return sizes.intAt(interval) <= 1 ? Kind.OWN : Kind.HALVES;
    }

    private int takeNumber() {
        int number = nextNumber;
        nextNumber++;
        return number;
    }

    private void splitArea(int area) {
        int moved = width / 2;
        spans.raise(area, -moved);
        spans.insertAt(area + 1, moved);
        areaSplits++;
    }

    private void halveInterval(int interval, int number) {
        int kept = keptByHalving(interval);
        int moved = sizes.intAt(interval) - kept;
        sizes.raise(interval, -moved);
        insertInterval(interval + 1, spans.groupOf(interval), number, moved);
        intervalSplits++;
    }

    private int keptByHalving(int interval) {
        int start = sizes.sum(0, interval);
        int most = sizes.intAt(interval) - 1;
        int half = lengthsIn(interval) / 2;
        int kept = 1;
        int together = lengths.intAt(start);
        while (kept < most && together + lengths.intAt(start + kept) <= half) {
            together += lengths.intAt(start + kept);
            kept++;
        }
        return kept;
    }

    private void giveOwnInterval(int interval, long key, int length) {
        boolean behind = key > keys.at(sizes.sum(0, interval));
        int own = behind ? interval + 1 : interval;
        insertInterval(own, spans.groupOf(interval), takeNumber(), 0);
        insertRecord(own, key, length);
        intervalSplits++;
    }

    private void insertInterval(int at, int area, int number, int size) {
        numbers.insertAt(at, number);
        sizes.insertAt(at, size);
        spans.raise(area, 1);
    }

    private void dropInterval(int interval) {
        int area = spans.groupOf(interval);
        numbers.deleteAt(interval);
        sizes.deleteAt(interval);
        spans.raise(area, -1);
        if (spans.intAt(area) == 0) {
            spans.deleteAt(area);
        }
    }

    /** Nothing of the split is seen while closed but the number that its second write uses up. */
    private void closeAhead(Kind kind, int interval) {
        if (toldCut > 2 && kind != Kind.AREA) {
            nextNumber++;
        }
        cutHasRow = toldCut > 3;
        cutKind = kind;
        cutPlace = interval;
        toldCut = 0;
        closed = true;
    }

    private void finishCutSplit() {
        if (cutKind == Kind.AREA) {
            splitArea(spans.groupOf(cutPlace));
        } else if (cutKind == Kind.HALVES) {
            halveInterval(cutPlace, nextNumber - 1);
        } else {
            // The interval that was to be the record's own is empty and goes at once: only counted.
            intervalSplits++;
        }
    }

    private void layInterval(int size) {
        numbers.insertAt(numbers.size, takeNumber());
        sizes.insertAt(sizes.size, size);
        int lastArea = spans.size - 1;
        if (lastArea >= 0 && spans.intAt(lastArea) < laidWidth) {
            spans.raise(lastArea, 1);
        } else {
            spans.insertAt(spans.size, 1);
        }
    }

    private int brokenOrders() {
        int broken = 0;
        for (int i = 1; i < keys.size; i++) {
            if (keys.at(i - 1) >= keys.at(i)) {
                broken++;
            }
        }
        return broken;
    }

    private int brokenRooms() {
        int broken = 0;
        int start = 0;
        for (int i = 0; i < sizes.size; i++) {
            int end = start + sizes.intAt(i);
            if (lengths.sum(start, end) > room) {
                broken++;
            }
            start = end;
        }
        return broken;
    }

    private int brokenWidths() {
        int broken = 0;
        for (int i = 0; i < spans.size; i++) {
            if (spans.intAt(i) > width) {
                broken++;
            }
        }
        return broken;
    }

    /** HALVES: some records move; OWN: a new record gets an interval alone; AREA: intervals move. */
    private enum Kind { HALVES, OWN, AREA }

    /** A row of numbers of a fixed capacity, made once; a place outside it reads as 0. */
    private static final class Row {
        private final long[] cells;
        private int size = 0;

        private Row(int capacity) {
            cells = new long[Math.max(0, capacity)];
        }

        private boolean holds(int i) {
            return i >= 0 && i < size;
        }

        private long at(int i) {
            return i >= 0 && i < size && i < cells.length ? cells[i] : 0;
        }

        private int intAt(int i) {
            return (int) at(i);
        }

        private void raise(int i, int by) {
            if (i >= 0 && i < size && i < cells.length) {
                cells[i] += by;
            }
        }

        private void insertAt(int i, long number) {
            if (i < 0 || i > size || size >= cells.length) {
                return;
            }
            System.arraycopy(cells, i, cells, i + 1, size - i);
            cells[i] = number;
            size++;
        }

        private void deleteAt(int i) {
            if (i >= 0 && i < size && size <= cells.length) {
                System.arraycopy(cells, i + 1, cells, i, size - i - 1);
                size--;
            }
        }

        /**
         * When the row says how many members each group has, sum(0, group) is where the group's
         * members begin. Kept apart from intAt so that calls stay few deep.
         */
        private int sum(int from, int to) {
            int end = to < size ? to : size;
            int sum = 0;
            for (int i = from; i < end; i++) {
                sum += (int) at(i);
            }
            return sum;
        }

        /** Which group a member is in, when the row says how many each group has. */
        private int groupOf(int member) {
            int end = 0;
            for (int i = 0; i < size; i++) {
                end += (int) at(i);
                if (member < end) {
                    return i;
                }
            }
            return 0;
        }
    }
}
