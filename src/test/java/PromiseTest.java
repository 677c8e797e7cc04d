/**
 * One method or more for each sentence of the promises 1 to 14; the sentence is quoted above the
 * method. What "Terms" says of splits, cuts and removing is in TermsTest and CutTest.
 */
public final class PromiseTest {
    private static final int NONE = IntervalSplits.NONE;
    private static final int CLOSED = -5;
    private static final int LEAST = Integer.MIN_VALUE;
    private static final int MOST = Integer.MAX_VALUE;

    private PromiseTest() {
    }

    public static void main(String[] args) {
        promise1New();
        promise1Room();
        promise1Width();
        promise1LoadFactor();
        promise1UpToDown();
        promise2Put();
        promise2Closed();
        promise2KeyIsThere();
        promise2Length();
        promise2RefusedChangesNothing();
        promise2Cut();
        promise3Find();
        promise3NotThere();
        promise4Next();
        promise4NoGreaterOne();
        promise5Remove();
        promise5NotThere();
        promise5Closed();
        promise6Interval();
        promise6Others();
        promise7NextSplitIsCut();
        promise7ToldBefore();
        promise7WrongWrite();
        promise7Closed();
        promise8Open();
        promise8NotClosed();
        promise9Split();
        promise9Others();
        promise10LowestBits();
        promise10FirstKeys();
        promise10Empty();
        promise10Throws();
        promise11Verify();
        promise12Room();
        promise12OneRecordAtLeast();
        promise12Width();
        promise12OneIntervalAtLeast();
        promise12AnswerAndNumbers();
        promise12NoSplit();
        promise12WithoutRecords();
        promise12Closed();
        promise13Order();
        promise13None();
        promise14Count();
        promise14Others();
        Check.end();
    }

    private static IntervalSplits storage(int room, int width) {
        return new IntervalSplits(room, width, 1, 1);
    }

    /** ROOM 10, WIDTH 3, an interval with 1, 2 of length 5 each: full. */
    private static IntervalSplits full() {
        IntervalSplits x = storage(10, 3);
        x.put(1, 5);
        x.put(2, 5);
        return x;
    }

    /** The full one, cut ahead of this write when 3 was to be put. */
    private static IntervalSplits closed(int write) {
        IntervalSplits x = full();
        x.cut(write);
        x.put(3, 5);
        return x;
    }

    /** The keys 1, 2, .. in the order of their lengths here. */
    private static void putAll(IntervalSplits x, int... lengths) {
        for (int i = 0; i < lengths.length; i++) {
            Check.due("put of length " + lengths[i], 1, x.put(i + 1, lengths[i]));
        }
    }

    /** "A storage with ROOM interval .. and WIDTH area .., load factor up / down". */
    private static void promise1New() {
        IntervalSplits x = new IntervalSplits(10, 3, 1, 2);
        Check.layout("1: new", "1[]", x);
        for (int what = 0; what < 4; what++) {
            Check.due("1: new, split " + what, 0, x.split(what));
        }
        Check.due("1: new, not closed", 0, x.count(3));
        Check.due("1: new, no cut is told", 0, x.cut(0));
        IntervalSplits other = new IntervalSplits(20, 4, 1, 1);
        other.put(1, 20);
        Check.due("1: two objects share nothing", 0, x.count(0));
        Check.due("1: two objects have rooms of their own", -1, x.put(1, 11));
    }

    /** "ROOM interval (1 .. 1000) ..; numbers outside are held to these". */
    private static void promise1Room() {
        int[][] rooms = {{LEAST, 1}, {-1, 1}, {0, 1}, {1, 1}, {2, 2}, {999, 999}, {1000, 1000},
            {1001, 1000}, {MOST, 1000}};
        for (int[] row : rooms) {
            IntervalSplits x = storage(row[0], 2);
            Check.due("1: ROOM " + row[0] + " and one more", -1, x.put(1, row[1] + 1));
            Check.due("1: ROOM " + row[0], 1, x.put(1, row[1]));
            Check.due("1: ROOM " + row[0] + ", verify", 0, x.verify());
        }
    }

    /** "and WIDTH area (2 .. 20) ..; numbers outside are held to these". */
    private static void promise1Width() {
        int[][] widths = {{LEAST, 2}, {-1, 2}, {0, 2}, {1, 2}, {2, 2}, {3, 3}, {19, 19}, {20, 20},
            {21, 20}, {MOST, 20}};
        for (int[] row : widths) {
            IntervalSplits x = storage(1, row[0]);
            for (int key = 1; key <= row[1]; key++) {
                x.put(key, 1);
            }
            Check.due("1: WIDTH " + row[0], 1, x.count(2));
            x.put(row[1] + 1, 1);
            Check.due("1: WIDTH " + row[0] + " and one more", 2, x.count(2));
        }
    }

    /** How many lengths the first interval gets when 1500 are laid anew, by tens. */
    private static int laid(int up, int down) {
        IntervalSplits x = new IntervalSplits(1000, 2, up, down);
        for (int key = 0; key < 150; key++) {
            x.put(key, 10);
        }
        x.reorganise();
        Check.due("1: load factor " + up + " / " + down + ", verify", 0, x.verify());
        return x.interval(0, 2);
    }

    /** "load factor up / down (up 1 .. down, down 1 .. 100); numbers outside are held". */
    private static void promise1LoadFactor() {
        int[][] factors = {{1, 1, 1000}, {1, 2, 500}, {2, 2, 1000}, {1, 100, 10}, {2, 100, 20},
            {7, 100, 70}, {99, 100, 990}, {100, 100, 1000},
            {99, 101, 990}, {1, 101, 10}, {50, 200, 500}, {1, MOST, 10}, {99, MOST, 990},
            {1, 0, 1000}, {1, -1, 1000}, {1, LEAST, 1000},
            {0, 100, 10}, {-1, 100, 10}, {LEAST, 100, 10}, {0, 2, 500}, {LEAST, 2, 500}};
        for (int[] row : factors) {
            Check.due("1: load factor " + row[0] + " / " + row[1], row[2], laid(row[0], row[1]));
        }
    }

    /** "(up to down)": up is held to the down that is held itself. */
    private static void promise1UpToDown() {
        int[][] factors = {{2, 1}, {3, 2}, {101, 100}, {MOST, 100}, {MOST, 2}, {100, 101},
            {101, 102}, {150, 120}, {120, 150}, {200, 150}, {MOST, MOST}, {5, 0}, {5, -3},
            {0, 0}, {LEAST, LEAST}, {MOST, LEAST}};
        for (int[] row : factors) {
            Check.due("1: up to down, " + row[0] + " / " + row[1], 1000, laid(row[0], row[1]));
        }
        IntervalSplits x = new IntervalSplits(1, 2, 3, 2);
        putAll(x, 1, 1, 1);
        x.reorganise();
        Check.layout("1: up to down, WIDTH", "4[1] 5[2] | 6[3]", x);
    }

    /** "A record: 1". */
    private static void promise2Put() {
        IntervalSplits x = storage(10, 3);
        Check.due("2: put", 1, x.put(5, 4));
        Check.due("2: there is one", 1, x.count(0));
        Check.due("2: its length", 4, x.count(5));
        Check.due("2: put exactly what has room", 1, x.put(6, 6));
        Check.layout("2: full", "1[5 6]", x);
        Check.due("2: put with a split", 1, x.put(7, 1));
        Check.layout("2: split", "1[5] 2[6 7]", x);
        Check.due("2: key 0", 1, x.put(0, 1));
        Check.due("2: least key", 1, x.put(Long.MIN_VALUE, 1));
        Check.due("2: greatest key", 1, x.put(Long.MAX_VALUE, 1));
        Check.layout("2: both ends",
            "1[" + Long.MIN_VALUE + " 0 5] 2[6 7 " + Long.MAX_VALUE + "]", x);
        Check.due("2: a key that was removed", 1, x.remove(5));
        Check.due("2: comes again", 1, x.put(5, 1));
    }

    /** "-5 when it is closed", whatever else could be said of the record. */
    private static void promise2Closed() {
        for (int write = 1; write <= 4; write++) {
            IntervalSplits x = closed(write);
            Check.due("2: closed, a new key", CLOSED, x.put(4, 1));
            Check.due("2: closed, the key is there", CLOSED, x.put(1, 5));
            Check.due("2: closed, length 0", CLOSED, x.put(4, 0));
            Check.due("2: closed, length above ROOM", CLOSED, x.put(4, 11));
            Check.due("2: closed, none came", 2, x.count(0));
        }
    }

    /** "0 when the key is there", whatever length is told. */
    private static void promise2KeyIsThere() {
        IntervalSplits x = full();
        int[] lengths = {5, 1, 10, 0, -1, 11, LEAST, MOST};
        for (int length : lengths) {
            Check.due("2: first key there, length " + length, 0, x.put(1, length));
            Check.due("2: last key there, length " + length, 0, x.put(2, length));
        }
        Check.due("2: the lengths stay", 10, x.count(5));
    }

    /** "-1 when length is not 1 .. ROOM". */
    private static void promise2Length() {
        int[] rooms = {1, 2, 10, 1000};
        for (int room : rooms) {
            IntervalSplits x = storage(room, 2);
            int[] wrong = {0, -1, LEAST, room + 1, room + 2, MOST};
            for (int length : wrong) {
                Check.due("2: ROOM " + room + ", length " + length, -1, x.put(6, length));
            }
            Check.due("2: none came", 0, x.count(0));
            Check.due("2: ROOM " + room + ", length 1", 1, x.put(6, 1));
            Check.due("2: ROOM " + room + ", length ROOM", 1, x.put(7, room));
        }
    }

    /** The answers 0 and -1: no split is made, no cut is used up, no number either. */
    private static void promise2RefusedChangesNothing() {
        for (int write = 1; write <= 4; write++) {
            IntervalSplits x = full();
            x.cut(write);
            String before = Check.stateOf(x);
            Check.due("2: refused, the key is there", 0, x.put(1, 5));
            Check.due("2: refused, length 0", -1, x.put(3, 0));
            Check.due("2: refused, length 11", -1, x.put(3, 11));
            Check.same("2: refused", before, x);
            Check.due("2: refused, not closed", 0, x.count(3));
            Check.due("2: refused, number", 2, x.count(4));
            Check.due("2: refused, the cut is told still", write, x.cut(write));
            Check.due("2: and cuts the next split", CLOSED, x.put(3, 5));
        }
    }

    /** "-5 when it was cut". */
    private static void promise2Cut() {
        for (int write = 1; write <= 4; write++) {
            IntervalSplits x = full();
            x.remove(2);
            x.cut(write);
            Check.due("2: a put without a split is not cut", 1, x.put(2, 5));
            Check.due("2: not closed", 0, x.count(3));
            Check.due("2: a put with a split is cut", CLOSED, x.put(3, 1));
            Check.due("2: closed", 1, x.count(3));
            Check.due("2: not put", NONE, x.find(3));
        }
    }

    /** "The number of the interval that has a key". */
    private static void promise3Find() {
        IntervalSplits x = full();
        x.put(3, 5);
        Check.due("3: alone in the first", 1, x.find(1));
        Check.due("3: first of the second", 2, x.find(2));
        Check.due("3: last of the second", 2, x.find(3));
        x.put(0, 10);
        Check.layout("3: numbers are not places", "3[0] 1[1] 2[2 3]", x);
        Check.due("3: place 0, number 3", 3, x.find(0));
        Check.due("3: place 1, number 1", 1, x.find(1));
        Check.due("3: place 2, number 2", 2, x.find(3));
        x.put(Long.MIN_VALUE, 10);
        x.put(Long.MAX_VALUE, 10);
        Check.due("3: least key", 4, x.find(Long.MIN_VALUE));
        Check.due("3: greatest key", 6, x.find(Long.MAX_VALUE));
        x.reorganise();
        Check.due("3: a new number", 7, x.find(Long.MIN_VALUE));
    }

    /** "NONE when it is not there". */
    private static void promise3NotThere() {
        IntervalSplits x = full();
        long[] others = {0, 3, -1, Long.MIN_VALUE, Long.MAX_VALUE, 1L + (1L << 32)};
        for (long key : others) {
            Check.due("3: not there " + key, NONE, x.find(key));
        }
        x.put(4, 0);
        Check.due("3: refused", NONE, x.find(4));
        x.remove(1);
        Check.due("3: removed", NONE, x.find(1));
        Check.due("3: 0 in a new one", NONE, storage(1, 2).find(0));
        Check.due("3: cut", NONE, closed(4).find(3));
    }

    /** "How many keys are not greater, when there is a greater one". */
    private static void promise4Next() {
        IntervalSplits x = full();
        Check.due("4: ahead of all, least", 0, x.next(Long.MIN_VALUE));
        Check.due("4: ahead of all", 0, x.next(0));
        Check.due("4: equal to the first", 1, x.next(1));
        x.put(10, 1);
        Check.due("4: equal to one", 2, x.next(2));
        Check.due("4: one above", 2, x.next(3));
        Check.due("4: one below", 2, x.next(9));
        x.put(Long.MAX_VALUE, 1);
        Check.due("4: below the greatest", 3, x.next(Long.MAX_VALUE - 1));
        x.put(Long.MIN_VALUE, 1);
        Check.due("4: equal to the least", 1, x.next(Long.MIN_VALUE));
        Check.due("4: above the least", 1, x.next(Long.MIN_VALUE + 1));
        Check.due("4: closed", 1, closed(4).next(1));
    }

    /** "NONE when there is none". */
    private static void promise4NoGreaterOne() {
        IntervalSplits x = full();
        Check.due("4: equal to the last", NONE, x.next(2));
        Check.due("4: above all", NONE, x.next(3));
        Check.due("4: the greatest", NONE, x.next(Long.MAX_VALUE));
        x.put(Long.MAX_VALUE, 1);
        Check.due("4: the greatest is there", NONE, x.next(Long.MAX_VALUE));
        x.remove(Long.MAX_VALUE);
        Check.due("4: the greater one is removed", NONE, x.next(2));
        long[] keys = {Long.MIN_VALUE, -5, 0, Long.MAX_VALUE};
        for (long key : keys) {
            Check.due("4: a new one, " + key, NONE, storage(1, 2).next(key));
        }
    }

    /** "A record goes: 1". */
    private static void promise5Remove() {
        IntervalSplits x = storage(10, 3);
        putAll(x, 2, 3, 5);
        Check.due("5: a middle one", 1, x.remove(2));
        Check.due("5: its length goes", 7, x.count(5));
        Check.due("5: the interval's lengths", 7, x.interval(0, 2));
        Check.due("5: how many the interval has", 2, x.interval(0, 1));
        Check.due("5: it is found no more", NONE, x.find(2));
        Check.due("5: the first", 1, x.remove(1));
        Check.due("5: the first one's length goes", 5, x.count(5));
        Check.due("5: room again", 1, x.put(4, 5));
        Check.layout("5: no split", "1[3 4]", x);
        Check.due("5: the last", 1, x.remove(4));
        Check.due("5: the only one", 1, x.remove(3));
        Check.layout("5: all gone", "1[]", x);
        Check.due("5: nothing is left", 0, x.count(5));
        Check.due("5: put again", 1, x.put(3, 10));
        x.put(Long.MIN_VALUE, 1);
        x.put(Long.MAX_VALUE, 1);
        Check.due("5: least key", 1, x.remove(Long.MIN_VALUE));
        Check.due("5: greatest key", 1, x.remove(Long.MAX_VALUE));
    }

    /** "0 when it is not there". */
    private static void promise5NotThere() {
        IntervalSplits x = full();
        x.put(9, 5);
        x.cut(3);
        String before = Check.stateOf(x);
        long[] others = {0, 3, 10, -1, Long.MIN_VALUE, Long.MAX_VALUE, 1L + (1L << 32)};
        for (long key : others) {
            Check.due("5: not there " + key, 0, x.remove(key));
        }
        Check.same("5: nothing is removed", before, x);
        Check.due("5: the cut is told still", 3, x.cut(0));
        x.remove(1);
        Check.due("5: gone already", 0, x.remove(1));
        Check.due("5: 0 in a new one", 0, storage(1, 2).remove(0));
    }

    /** "-5": while it is closed, whether the key is there or not. */
    private static void promise5Closed() {
        for (int write = 1; write <= 4; write++) {
            IntervalSplits x = closed(write);
            Check.due("5: closed, there", CLOSED, x.remove(1));
            Check.due("5: closed, not there", CLOSED, x.remove(7));
            Check.due("5: closed, the one that was cut", CLOSED, x.remove(3));
            Check.due("5: closed, none went", 2, x.count(0));
            x.open();
            Check.due("5: opened", 1, x.remove(1));
        }
    }

    /** "Of the i-th interval, in the order of keys, from 0 on: what = 0 its number, ..". */
    private static void promise6Interval() {
        IntervalSplits x = storage(10, 2);
        x.put(5, 4);
        x.put(7, 4);
        x.put(6, 4);
        x.put(8, 10);
        x.put(4, 6);
        Check.layout("6: areas", "1[4 5] 4[6] | 2[7] 3[8]", x);
        int[][] due = {{1, 2, 10, 0}, {4, 1, 4, 0}, {2, 1, 4, 1}, {3, 1, 10, 1}};
        for (int i = 0; i < due.length; i++) {
            for (int what = 0; what < 4; what++) {
                Check.due("6: interval " + i + ", " + what, due[i][what], x.interval(i, what));
            }
        }
    }

    /** "NONE for others": for what, and for an interval that is not there. */
    private static void promise6Others() {
        IntervalSplits x = full();
        x.put(3, 5);
        int[] whats = {-1, 4, 5, LEAST, MOST};
        for (int what : whats) {
            Check.due("6: what " + what, NONE, x.interval(0, what));
            Check.due("6: what " + what + ", last", NONE, x.interval(1, what));
        }
        int[] places = {-1, 2, 3, 600, 601, 602, LEAST, MOST};
        for (int i : places) {
            for (int what = -1; what <= 4; what++) {
                Check.due("6: interval " + i + ", " + what, NONE, x.interval(i, what));
            }
        }
        Check.due("6: the only one", 0, storage(10, 2).interval(0, 1));
        Check.due("6: behind the only one", NONE, storage(10, 2).interval(1, 1));
    }

    /** "The next split is cut ahead of a write 1 .. 4 (0: no cut)". */
    private static void promise7NextSplitIsCut() {
        IntervalSplits x = full();
        x.cut(3);
        x.cut(0);
        Check.due("7: no cut", 1, x.put(3, 5));
        x.cut(2);
        Check.due("7: a put without a split", 1, x.put(0, 5));
        Check.due("7: removing is no split", 1, x.remove(0));
        Check.due("7: reorganising is no split", 2, x.reorganise());
        Check.due("7: nothing to open", 0, x.open());
        Check.due("7: the cut waits", 2, x.cut(2));
        Check.layout("7: before", "3[1 2] 4[3]", x);
        Check.due("7: the next split is cut", CLOSED, x.put(0, 5));
        x.open();
        Check.due("7: the one behind it is not", 1, x.put(0, 5));
        Check.due("7: not closed", 0, x.count(3));
    }

    /** "what was told before (0 none)". */
    private static void promise7ToldBefore() {
        IntervalSplits x = full();
        int before = 0;
        int[] writes = {0, 0, 1, 1, 2, 3, 4, 4, 0, 0, 4, 1, 0};
        for (int write : writes) {
            Check.due("7: told before " + write, before, x.cut(write));
            before = write;
        }
        x.cut(1);
        x.cut(4);
        x.put(3, 5);
        Check.due("7: the last one told cuts", 2, x.open());
        Check.due("7: used up", 0, x.cut(0));
    }

    /** "NONE when write is not so". */
    private static void promise7WrongWrite() {
        int[] wrong = {-1, 5, 6, -5, LEAST, MOST};
        for (int write : wrong) {
            IntervalSplits x = full();
            Check.due("7: wrong write " + write, NONE, x.cut(write));
            Check.due("7: nothing is told by " + write, 0, x.cut(3));
            Check.due("7: wrong write again " + write, NONE, x.cut(write));
            Check.due("7: what was told stays after " + write, 3, x.cut(0));
            x.cut(write);
            Check.due("7: no cut by " + write, 1, x.put(3, 5));
        }
    }

    /** "-5": while it is closed, for a wrong write too. */
    private static void promise7Closed() {
        IntervalSplits x = closed(1);
        for (int write = -1; write <= 5; write++) {
            Check.due("7: closed, " + write, CLOSED, x.cut(write));
        }
        x.open();
        Check.due("7: nothing was told while closed", 0, x.cut(4));
        Check.due("7: told again", CLOSED, x.put(3, 5));
    }

    /** "It is open: 2 a split was finished, 1 undone". */
    private static void promise8Open() {
        int[] answers = {1, 1, 1, 2};
        for (int write = 1; write <= 4; write++) {
            IntervalSplits x = closed(write);
            Check.due("8: closed " + write, 1, x.count(3));
            Check.due("8: open " + write, answers[write - 1], x.open());
            Check.due("8: it is open " + write, 0, x.count(3));
            Check.layout("8: opened " + write, write == 4 ? "1[1] 2[2]" : "1[1 2]", x);
            Check.due("8: put " + write, 1, x.put(3, 5));
        }
    }

    /** "0 when it was not closed". */
    private static void promise8NotClosed() {
        Check.due("8: new", 0, storage(1, 2).open());
        IntervalSplits x = full();
        x.cut(4);
        String before = Check.stateOf(x);
        Check.due("8: not closed", 0, x.open());
        Check.same("8: not closed", before, x);
        Check.due("8: the cut is told still", 4, x.cut(4));
        x.put(3, 5);
        Check.due("8: once", 2, x.open());
        Check.due("8: not twice", 0, x.open());
        Check.due("8: finished once", 1, x.split(3));
        IntervalSplits undone = closed(1);
        undone.open();
        Check.due("8: undone, not twice", 0, undone.open());
        Check.due("8: undone once", 1, undone.split(2));
    }

    private static void splits(String what, IntervalSplits x, int... due) {
        for (int i = 0; i < due.length; i++) {
            Check.due("9: " + what + ", split " + i, due[i], x.split(i));
        }
    }

    /** "what = 0 interval splits that were done, or finished, 1 area splits, 2 .. undone, 3 ..". */
    private static void promise9Split() {
        IntervalSplits x = storage(1, 2);
        splits("new", x, 0, 0, 0, 0);
        x.put(1, 1);
        splits("room for it", x, 0, 0, 0, 0);
        x.put(2, 1);
        splits("interval split", x, 1, 0, 0, 0);
        x.put(3, 1);
        splits("area and interval split", x, 2, 1, 0, 0);
        x.cut(1);
        x.put(4, 1);
        splits("closed, to be undone", x, 2, 1, 0, 0);
        x.open();
        splits("undone", x, 2, 1, 1, 0);
        x.cut(4);
        x.put(4, 1);
        splits("closed, to be finished", x, 2, 1, 1, 0);
        x.open();
        splits("area split finished", x, 2, 2, 1, 1);
        x.cut(4);
        x.put(4, 1);
        x.open();
        splits("interval split finished", x, 3, 2, 1, 2);
        x.put(4, 1);
        splits("interval split done", x, 4, 2, 1, 2);
        x.reorganise();
        x.remove(1);
        splits("reorganised and removed", x, 4, 2, 1, 2);
    }

    /** "NONE for others". */
    private static void promise9Others() {
        IntervalSplits x = full();
        x.put(3, 5);
        int[] wrong = {-1, 4, 5, LEAST, MOST};
        for (int what : wrong) {
            Check.due("9: split " + what, NONE, x.split(what));
            Check.due("9: closed, split " + what, NONE, closed(4).split(what));
        }
    }

    /** "the lowest 32 bits of the first key". */
    private static void promise10LowestBits() {
        long[][] keys = {{0, 0}, {5, 5}, {-1, -1}, {MOST, MOST}, {LEAST, LEAST},
            {1L + MOST, LEAST}, {LEAST - 1L, MOST}, {1L << 32, 0}, {(1L << 32) - 1, -1},
            {(1L << 32) + 7, 7}, {Long.MIN_VALUE, 0}, {Long.MAX_VALUE, -1},
            {0x123456789ABCDEF0L, 0x9ABCDEF0}};
        for (long[] row : keys) {
            IntervalSplits x = storage(1, 2);
            x.put(row[0], 1);
            Check.due("10: level 0, key " + row[0], row[1], x.index(0, 0));
            Check.due("10: level 1, key " + row[0], row[1], x.index(1, 0));
        }
    }

    /** "level = 0: .. of the i-th interval, level 1: of the i-th area". */
    private static void promise10FirstKeys() {
        IntervalSplits x = storage(10, 2);
        putAll(x, 5, 5, 5, 5, 5, 5, 5);
        Check.layout("10: areas", "1[1] | 2[2] | 3[3] | 4[4] | 5[5] 6[6 7]", x);
        int[] first = {1, 2, 3, 4, 5, 6};
        for (int i = 0; i < first.length; i++) {
            Check.due("10: interval " + i, first[i], x.index(0, i));
        }
        for (int i = 0; i < 5; i++) {
            Check.due("10: area " + i, i + 1, x.index(1, i));
        }
        x.remove(6);
        Check.due("10: a first key that has risen", 7, x.index(0, 5));
        x.remove(5);
        Check.due("10: an area's first key that has risen", 7, x.index(1, 4));
        x.put(0, 1);
        Check.due("10: a first key that has sunk", 0, x.index(0, 0));
        Check.due("10: closed", 1, closed(4).index(0, 0));
    }

    /** "(0 for an empty one)". */
    private static void promise10Empty() {
        IntervalSplits fresh = storage(10, 2);
        Check.due("10: new, level 0", 0, fresh.index(0, 0));
        Check.due("10: new, level 1", 0, fresh.index(1, 0));
        IntervalSplits x = full();
        x.remove(2);
        x.remove(1);
        Check.due("10: emptied, level 0", 0, x.index(0, 0));
        Check.due("10: emptied, level 1", 0, x.index(1, 0));
        Check.indexThrows("10: emptied, level 0, 1", x, 0, 1);
        Check.indexThrows("10: emptied, level 1, 1", x, 1, 1);
        x.reorganise();
        Check.due("10: reorganised, level 0", 0, x.index(0, 0));
    }

    /** "ArrayIndexOutOfBoundsException when there is no such level, interval or area." */
    private static void promise10Throws() {
        IntervalSplits x = storage(1, 3);
        putAll(x, 1, 1, 1, 1);
        String before = Check.stateOf(x);
        int[][] wrong = {{0, 4}, {0, -1}, {0, 5}, {0, 600}, {0, 601}, {0, 602}, {0, LEAST},
            {0, MOST}, {1, 2}, {1, 3}, {1, -1}, {1, 600}, {1, 601}, {1, LEAST}, {1, MOST},
            {2, 0}, {-1, 0}, {3, 1}, {LEAST, 0}, {MOST, 0}, {2, 9}, {-1, -1}, {LEAST, LEAST},
            {MOST, MOST}};
        for (int[] row : wrong) {
            Check.indexThrows("10: level " + row[0] + ", " + row[1], x, row[0], row[1]);
        }
        Check.same("10: after the exceptions", before, x);
        Check.due("10: the last interval", 4, x.index(0, 3));
        Check.due("10: the last area", 3, x.index(1, 1));
        x.remove(4);
        Check.indexThrows("10: an interval that went", x, 0, 3);
        x.remove(3);
        Check.indexThrows("10: an area that went", x, 1, 1);
        Check.indexThrows("10: closed, no new interval", closed(4), 0, 1);
    }

    /** "How many rules are broken (an order, a room, a width): 0." */
    private static void promise11Verify() {
        Check.due("11: new", 0, storage(7, 3).verify());
        int[] rooms = {1, 7, 30};
        for (int room : rooms) {
            IntervalSplits x = new IntervalSplits(room, 3, 2, 3);
            for (int i = 0; i < 60; i++) {
                x.put((i * 37L) % 101 - 50, 1 + i % room);
                Check.due("11: after put " + i, 0, x.verify());
            }
            Check.rules("11: from outside", x, room, 3);
        }
        IntervalSplits x = storage(5, 2);
        putAll(x, 5, 5, 5, 5, 5, 5, 5, 5);
        Check.due("11: full rooms and areas", 0, x.verify());
        x.reorganise();
        Check.due("11: reorganised", 0, x.verify());
        Check.rules("11: reorganised, from outside", x, 5, 2);
        for (int write = 1; write <= 4; write++) {
            IntervalSplits y = closed(write);
            Check.due("11: closed " + write, 0, y.verify());
            y.open();
            Check.due("11: opened " + write, 0, y.verify());
        }
    }

    /** "each with as many as have together at most ROOM * up / down (whole part)". */
    private static void promise12Room() {
        IntervalSplits half = new IntervalSplits(10, 20, 1, 2);
        putAll(half, 2, 3, 1, 4, 1, 4, 1);
        int number = half.count(4);
        Check.due("12: exactly 5 of 10, then one over", 4, half.reorganise());
        Check.layout("12: by halves", number + "[1 2] " + (number + 1) + "[3 4] " + (number + 2)
            + "[5 6] " + (number + 3) + "[7]", half);
        IntervalSplits third = new IntervalSplits(10, 20, 1, 3);
        putAll(third, 1, 2, 2, 2);
        Check.due("12: whole part of 10 / 3 is 3", 3, third.reorganise());
        Check.layout("12: by thirds", "2[1 2] 3[3] 4[4]", third);
        IntervalSplits twoThirds = new IntervalSplits(5, 20, 2, 3);
        putAll(twoThirds, 1, 1, 1, 1);
        Check.due("12: whole part of 5 * 2 / 3 is 3", 2, twoThirds.reorganise());
        Check.due("12: three in the first", 3, twoThirds.interval(0, 1));
        IntervalSplits whole = storage(10, 2);
        putAll(whole, 10, 4, 6, 1);
        number = whole.count(4);
        Check.due("12: the whole room", 3, whole.reorganise());
        Check.layout("12: whole", number + "[1] " + (number + 1) + "[2 3] | " + (number + 2) + "[4]",
            whole);
    }

    /** "but one at least". */
    private static void promise12OneRecordAtLeast() {
        IntervalSplits none = new IntervalSplits(3, 20, 1, 100);
        putAll(none, 1, 1, 1, 3);
        Check.due("12: no room by the load factor", 4, none.reorganise());
        Check.due("12: one each", 1, none.interval(0, 1));
        IntervalSplits longer = new IntervalSplits(10, 20, 1, 2);
        putAll(longer, 6, 1, 10, 1, 4, 6);
        Check.due("12: records longer than that", 5, longer.reorganise());
        int[] sizes = {1, 1, 1, 2, 1};
        for (int i = 0; i < sizes.length; i++) {
            Check.due("12: records in " + i, sizes[i], longer.interval(i, 1));
        }
        Check.due("12: longer than that, verify", 0, longer.verify());
    }

    /** How many areas n intervals of one record each come into. */
    private static int areasOf(int n, int width, int up, int down) {
        IntervalSplits x = new IntervalSplits(1, width, up, down);
        for (int key = 0; key < n; key++) {
            x.put(key, 1);
        }
        Check.due("12: intervals", n, x.reorganise());
        return x.count(2);
    }

    /** "as many intervals an area as WIDTH * up / down (whole part". */
    private static void promise12Width() {
        // intervals, WIDTH, up, down, areas
        int[][] rows = {{4, 5, 1, 2, 2}, {5, 5, 1, 2, 3}, {6, 8, 1, 3, 3}, {7, 8, 1, 3, 4},
            {3, 5, 2, 3, 1}, {4, 5, 2, 3, 2}, {20, 20, 1, 1, 1}, {21, 20, 1, 1, 2},
            {19, 20, 99, 100, 1}, {20, 20, 99, 100, 2}, {2, 2, 1, 1, 1}, {3, 2, 1, 1, 2}};
        for (int[] row : rows) {
            Check.due("12: " + row[0] + " intervals, WIDTH " + row[1] + " * " + row[2] + " / " + row[3],
                row[4], areasOf(row[0], row[1], row[2], row[3]));
        }
        IntervalSplits x = new IntervalSplits(1, 5, 1, 2);
        putAll(x, 1, 1, 1, 1, 1);
        x.reorganise();
        Check.layout("12: the last area has what is left", "6[1] 7[2] | 8[3] 9[4] | 10[5]", x);
        for (int key = 6; key <= 9; key++) {
            Check.due("12: put behind it " + key, 1, x.put(key, 1));
        }
        Check.layout("12: puts fill the area up to WIDTH itself",
            "6[1] 7[2] | 8[3] 9[4] | 10[5] 11[6] 12[7] 13[8] 14[9]", x);
    }

    /** "one at least)". */
    private static void promise12OneIntervalAtLeast() {
        Check.due("12: WIDTH 2 / 100", 3, areasOf(3, 2, 1, 100));
        Check.due("12: WIDTH 2 / 3", 3, areasOf(3, 2, 1, 3));
        Check.due("12: WIDTH 20 / 21", 4, areasOf(4, 20, 1, 21));
        Check.due("12: WIDTH 20 / 20", 4, areasOf(4, 20, 1, 20));
        Check.due("12: WIDTH 20 / 10", 2, areasOf(4, 20, 1, 10));
    }

    /** "All records are laid anew, in the order of keys, into new intervals ..: how many". */
    private static void promise12AnswerAndNumbers() {
        IntervalSplits x = full();
        x.put(0, 1);
        x.put(Long.MIN_VALUE, 9);
        Check.layout("12: before", "1[" + Long.MIN_VALUE + " 0] 3[1] 2[2]", x);
        Check.due("12: how many intervals", 2, x.reorganise());
        Check.layout("12: new numbers in the order of keys",
            "4[" + Long.MIN_VALUE + " 0] 5[1 2]", x);
        Check.due("12: records", 4, x.count(0));
        Check.due("12: lengths", 20, x.count(5));
        Check.due("12: as many again", 2, x.reorganise());
        Check.layout("12: with new numbers again", "6[" + Long.MIN_VALUE + " 0] 7[1 2]", x);
    }

    /** "(Nothing counts as a split." */
    private static void promise12NoSplit() {
        IntervalSplits x = new IntervalSplits(10, 2, 1, 10);
        putAll(x, 1, 1, 1, 1, 1, 1);
        x.cut(1);
        Check.due("12: one interval becomes six", 6, x.reorganise());
        Check.due("12: six areas", 6, x.count(2));
        for (int what = 0; what < 4; what++) {
            Check.due("12: split " + what, 0, x.split(what));
        }
        Check.due("12: not cut", 0, x.count(3));
        Check.due("12: the cut is told still", 1, x.cut(0));
    }

    /** "Without records: one interval.)" */
    private static void promise12WithoutRecords() {
        IntervalSplits x = new IntervalSplits(3, 2, 1, 100);
        Check.due("12: new", 1, x.reorganise());
        Check.layout("12: new", "2[]", x);
        putAll(x, 3, 3, 3);
        x.remove(1);
        x.remove(2);
        x.remove(3);
        int number = x.count(4);
        Check.due("12: emptied", 1, x.reorganise());
        Check.layout("12: emptied", number + "[]", x);
        Check.due("12: one area", 1, x.count(2));
        Check.due("12: next number", number + 1, x.count(4));
        Check.due("12: put", 1, x.put(5, 3));
        Check.layout("12: put", number + "[5]", x);
    }

    /** "-5": while it is closed. */
    private static void promise12Closed() {
        for (int write = 1; write <= 4; write++) {
            IntervalSplits x = closed(write);
            int number = x.count(4);
            Check.due("12: closed", CLOSED, x.reorganise());
            Check.layout("12: closed", "1[1 2]", x);
            Check.due("12: closed, number", number, x.count(4));
            x.open();
            Check.due("12: opened", 1, x.reorganise());
            Check.layout("12: opened", number + "[1 2]", x);
        }
    }

    /** "The i-th key, from 0 on". */
    private static void promise13Order() {
        IntervalSplits x = storage(4, 2);
        long[] keys = {Long.MIN_VALUE, -3, 0, 4, 1L << 40, Long.MAX_VALUE};
        int[] coming = {3, 5, 0, 2, 4, 1};
        for (int i : coming) {
            x.put(keys[i], 3);
        }
        for (int i = 0; i < keys.length; i++) {
            Check.due("13: order " + i, keys[i], x.order(i));
        }
        x.remove(0);
        Check.due("13: those behind come up", 4, x.order(2));
        x.remove(Long.MIN_VALUE);
        Check.due("13: the first is another", -3, x.order(0));
        Check.due("13: closed", 2, closed(4).order(1));
    }

    /** "0 for none". */
    private static void promise13None() {
        IntervalSplits x = full();
        int[] wrong = {-1, 2, 3, 599, 600, 601, LEAST, MOST};
        for (int i : wrong) {
            Check.due("13: order " + i, 0, x.order(i));
        }
        x.remove(2);
        Check.due("13: what was removed", 0, x.order(1));
        x.remove(1);
        Check.due("13: emptied", 0, x.order(0));
        Check.due("13: new", 0, storage(1, 2).order(0));
        Check.due("13: what was cut", 0, closed(4).order(2));
    }

    private static void counts(String what, IntervalSplits x, int... due) {
        for (int i = 0; i < due.length; i++) {
            Check.due("14: " + what + ", count " + i, due[i], x.count(i));
        }
    }

    /** "what = 0 records, 1 intervals, 2 areas, 3 whether it is closed, 4 .., 5 all lengths". */
    private static void promise14Count() {
        IntervalSplits x = storage(10, 2);
        counts("new", x, 0, 1, 1, 0, 2, 0);
        x.put(5, 4);
        x.put(7, 4);
        x.put(6, 4);
        counts("an interval split", x, 3, 2, 1, 0, 3, 12);
        x.put(8, 10);
        counts("an area split", x, 4, 3, 2, 0, 4, 22);
        x.put(9, 0);
        counts("refused", x, 4, 3, 2, 0, 4, 22);
        x.remove(8);
        counts("removed", x, 3, 2, 2, 0, 4, 12);
        counts("closed ahead of 1", closed(1), 2, 1, 1, 1, 2, 10);
        counts("closed ahead of 2", closed(2), 2, 1, 1, 1, 2, 10);
        counts("closed ahead of 3", closed(3), 2, 1, 1, 1, 3, 10);
        counts("closed ahead of 4", closed(4), 2, 1, 1, 1, 3, 10);
        IntervalSplits opened = closed(4);
        opened.open();
        counts("opened", opened, 2, 2, 1, 0, 3, 10);
        IntervalSplits much = storage(1000, 20);
        for (int key = 0; key < 400; key++) {
            much.put(key, 1000);
        }
        Check.due("14: many lengths", 400000, much.count(5));
    }

    /** "NONE for others". */
    private static void promise14Others() {
        int[] wrong = {-1, 6, 7, LEAST, MOST};
        for (int what : wrong) {
            Check.due("14: count " + what, NONE, full().count(what));
            Check.due("14: closed, count " + what, NONE, closed(4).count(what));
        }
    }
}
