/** One method or more for each promise: ordinary inputs, the edges, wrong inputs. */
public final class PromiseTest {
    private static final int NONE = IntervalSplits.NONE;
    private static final int CLOSED = -5;

    private PromiseTest() {
    }

    public static void main(String[] args) {
        promise1New();
        promise1NumbersAreHeld();
        promise2Put();
        promise2MostRecords();
        promise2IntervalSplit();
        promise2OwnInterval();
        promise2AreaSplit();
        promise2ManySplits();
        promise3Find();
        promise4Next();
        promise5Remove();
        promise5EmptyOnesGo();
        promise6Interval();
        promise7Cut();
        promise8OpenAfterHalving();
        promise8OpenAfterOwnInterval();
        promise8OpenAfterAreaSplit();
        promise9Split();
        promise10Index();
        promise11Verify();
        promise12Reorganise();
        promise12OneAtLeast();
        promise13Order();
        promise14Count();
        closedAnswers();
        Check.end();
    }

    /** ROOM 10, WIDTH 3, an interval with 1, 2 of length 5 each: full. */
    private static IntervalSplits full() {
        IntervalSplits x = new IntervalSplits(10, 3, 1, 1);
        x.put(1, 5);
        x.put(2, 5);
        return x;
    }

    private static void promise1New() {
        IntervalSplits x = new IntervalSplits(10, 3, 1, 2);
        int[] counts = {0, 1, 1, 0, 2, 0};
        for (int what = 0; what < counts.length; what++) {
            Check.due("1: new count " + what, counts[what], x.count(what));
        }
        for (int what = 0; what < 4; what++) {
            Check.due("1: new split " + what, 0, x.split(what));
        }
        Check.due("1: no cut is told", 0, x.cut(0));
        Check.layout("1: new", "1[]", x);
    }

    private static void promise1NumbersAreHeld() {
        int[][] rooms = {{Integer.MIN_VALUE, 1}, {0, 1}, {1, 1}, {2, 2}, {999, 999}, {1000, 1000},
            {1001, 1000}, {Integer.MAX_VALUE, 1000}};
        for (int[] row : rooms) {
            IntervalSplits x = new IntervalSplits(row[0], 2, 1, 1);
            Check.due("1: ROOM " + row[0] + " over", -1, x.put(1, row[1] + 1));
            Check.due("1: ROOM " + row[0], 1, x.put(1, row[1]));
        }
        int[][] widths = {{Integer.MIN_VALUE, 2}, {1, 2}, {2, 2}, {3, 3}, {19, 19}, {20, 20},
            {21, 20}, {Integer.MAX_VALUE, 20}};
        for (int[] row : widths) {
            IntervalSplits x = new IntervalSplits(1, row[0], 1, 1);
            for (int key = 1; key <= row[1]; key++) {
                x.put(key, 1);
            }
            Check.due("1: WIDTH " + row[0], 1, x.count(2));
            x.put(row[1] + 1, 1);
            Check.due("1: WIDTH " + row[0] + " and one more", 2, x.count(2));
        }
        // up, down, how many records of length 1 an interval of 1000 gets by reorganising 200
        int[][] factors = {{0, 100, 10}, {-7, 100, 10}, {1, 100, 10}, {1, 101, 10},
            {1, Integer.MAX_VALUE, 10}, {7, 100, 70}, {5, 4, 200}, {1, 0, 200}, {1, -3, 200},
            {200, 150, 200}, {Integer.MIN_VALUE, Integer.MIN_VALUE, 200}};
        for (int[] row : factors) {
            IntervalSplits x = new IntervalSplits(1000, 2, row[0], row[1]);
            for (int key = 0; key < 200; key++) {
                x.put(key, 1);
            }
            x.reorganise();
            Check.due("1: load factor " + row[0] + " / " + row[1], row[2], x.interval(0, 1));
        }
        int[] downs = {100, 101, Integer.MAX_VALUE};
        for (int down : downs) {
            IntervalSplits x = new IntervalSplits(1000, 2, 99, down);
            for (int key = 0; key < 100; key++) {
                x.put(key, 10);
            }
            x.reorganise();
            Check.due("1: load factor 99 / " + down, 990, x.interval(0, 2));
        }
    }

    private static void promise2Put() {
        IntervalSplits x = new IntervalSplits(10, 3, 1, 1);
        Check.due("2: put", 1, x.put(5, 4));
        Check.due("2: put the same key", 0, x.put(5, 4));
        Check.due("2: the key comes ahead of the length", 0, x.put(5, 11));
        Check.due("2: length 0", -1, x.put(6, 0));
        Check.due("2: length below", -1, x.put(6, Integer.MIN_VALUE));
        Check.due("2: length 11", -1, x.put(6, 11));
        Check.due("2: length above", -1, x.put(6, Integer.MAX_VALUE));
        Check.due("2: not put", 1, x.count(0));
        Check.due("2: put exactly what has room", 1, x.put(6, 6));
        Check.layout("2: full", "1[5 6]", x);
        Check.due("2: least key", 1, x.put(Long.MIN_VALUE, 1));
        Check.due("2: greatest key", 1, x.put(Long.MAX_VALUE, 1));
        Check.layout("2: both ends", "1[" + Long.MIN_VALUE + " 5] 2[6 " + Long.MAX_VALUE + "]", x);
        Check.due("2: a wrong length splits nothing", 1, x.split(0));
    }

    /** 600 can't be reached in the 512 calls of the document; the class refuses it all the same. */
    private static void promise2MostRecords() {
        IntervalSplits x = new IntervalSplits(1, 20, 1, 1);
        for (int key = 0; key < 600; key++) {
            Check.due("2: put number " + key, 1, x.put(key, 1));
        }
        Check.due("2: 600 are there", -1, x.put(600, 1));
        Check.due("2: 600 are there, key too", 0, x.put(599, 1));
        Check.due("2: all in intervals of their own", 600, x.count(1));
        Check.due("2: remove of 600", 1, x.remove(0));
        Check.due("2: 599 are there", 1, x.put(-1, 1));
    }

    private static void promise2IntervalSplit() {
        IntervalSplits x = new IntervalSplits(10, 5, 1, 1);
        x.put(1, 2);
        x.put(2, 3);
        x.put(3, 5);
        x.put(9, 1);
        Check.layout("2: exactly half is kept", "1[1 2] 2[3 9]", x);
        IntervalSplits y = new IntervalSplits(11, 5, 1, 1);
        y.put(1, 2);
        y.put(2, 4);
        y.put(3, 5);
        y.put(9, 1);
        Check.layout("2: more than half is not kept", "1[1] 2[2 3 9]", y);
        IntervalSplits z = new IntervalSplits(10, 5, 1, 1);
        z.put(1, 8);
        z.put(2, 1);
        z.put(3, 1);
        z.put(9, 1);
        Check.layout("2: one at least is kept", "1[1] 2[2 3 9]", z);
        IntervalSplits w = new IntervalSplits(10, 5, 1, 1);
        w.put(1, 1);
        w.put(2, 1);
        w.put(3, 8);
        w.put(0, 1);
        Check.layout("2: not all is kept", "1[0 1 2] 2[3]", w);
        w.put(4, 3);
        Check.layout("2: looked for anew, own interval", "1[0 1 2] 2[3] 3[4]", w);
    }

    private static void promise2OwnInterval() {
        IntervalSplits x = new IntervalSplits(10, 5, 1, 1);
        x.put(5, 10);
        x.put(3, 10);
        Check.layout("2: ahead of the first", "2[3] 1[5]", x);
        x.put(4, 1);
        Check.layout("2: behind the first", "2[3] 3[4] 1[5]", x);
        x.put(9, 1);
        Check.layout("2: behind the last", "2[3] 3[4] 1[5] 4[9]", x);
        Check.due("2: all of them are splits", 3, x.split(0));
        x.put(8, 9);
        Check.layout("2: it belongs to the full one", "2[3] 3[4] 1[5] 5[8] 4[9]", x);
    }

    private static void promise2AreaSplit() {
        IntervalSplits x = new IntervalSplits(1, 5, 1, 1);
        for (int key = 1; key <= 5; key++) {
            x.put(key * 10, 1);
        }
        Check.layout("2: a full area", "1[10] 2[20] 3[30] 4[40] 5[50]", x);
        x.put(35, 1);
        Check.layout("2: behind in the old area", "1[10] 2[20] 3[30] 6[35] | 4[40] 5[50]", x);
        Check.due("2: an area split", 1, x.split(1));
        x.put(60, 1);
        x.put(70, 1);
        x.put(80, 1);
        x.put(90, 1);
        Check.layout("2: the new area splits",
            "1[10] 2[20] 3[30] 6[35] | 4[40] 5[50] 7[60] | 8[70] 9[80] 10[90]", x);
        x.put(5, 1);
        x.put(4, 1);
        Check.layout("2: the first area splits",
            "12[4] 11[5] 1[10] 2[20] | 3[30] 6[35] | 4[40] 5[50] 7[60] | 8[70] 9[80] 10[90]", x);
    }

    private static void promise2ManySplits() {
        IntervalSplits x = new IntervalSplits(8, 2, 1, 1);
        for (int key = 1; key <= 8; key++) {
            x.put(key * 10, 1);
        }
        Check.due("2: a put with many splits", 1, x.put(15, 8));
        Check.layout("2: many splits", "1[10] 5[15] | 4[20] | 3[30 40] | 2[50 60 70 80]", x);
        Check.due("2: many interval splits", 4, x.split(0));
        Check.due("2: many area splits", 3, x.split(1));
    }

    private static void promise3Find() {
        IntervalSplits x = full();
        x.put(3, 5);
        Check.due("3: find 1", 1, x.find(1));
        Check.due("3: find 2", 2, x.find(2));
        Check.due("3: find 3", 2, x.find(3));
        Check.due("3: not there", NONE, x.find(0));
        Check.due("3: not there, least", NONE, x.find(Long.MIN_VALUE));
        Check.due("3: not there, greatest", NONE, x.find(Long.MAX_VALUE));
        Check.due("3: other high bits", NONE, x.find(1L + (1L << 32)));
        Check.due("3: 0 in an empty one", NONE, new IntervalSplits(1, 2, 1, 1).find(0));
    }

    private static void promise4Next() {
        IntervalSplits x = full();
        Check.due("4: none in an empty one", NONE, new IntervalSplits(1, 2, 1, 1).next(-5));
        Check.due("4: below all", 0, x.next(Long.MIN_VALUE));
        Check.due("4: below all", 0, x.next(0));
        Check.due("4: equal to the first", 1, x.next(1));
        Check.due("4: equal to the last", NONE, x.next(2));
        Check.due("4: above all", NONE, x.next(Long.MAX_VALUE));
        x.put(10, 1);
        Check.due("4: between", 2, x.next(7));
        x.put(Long.MAX_VALUE, 1);
        Check.due("4: below the greatest", 3, x.next(Long.MAX_VALUE - 1));
        Check.due("4: the greatest", NONE, x.next(Long.MAX_VALUE));
    }

    private static void promise5Remove() {
        IntervalSplits x = full();
        Check.due("5: not there", 0, x.remove(3));
        Check.due("5: there", 1, x.remove(1));
        Check.due("5: gone", 0, x.remove(1));
        Check.due("5: its length is gone", 5, x.count(5));
        Check.due("5: the last one", 1, x.remove(2));
        Check.layout("5: the only interval stays", "1[]", x);
        Check.due("5: 0 in an empty one", 0, x.remove(0));
        Check.due("5: room again", 1, x.put(4, 10));
        Check.layout("5: put again", "1[4]", x);
    }

    private static void promise5EmptyOnesGo() {
        IntervalSplits x = new IntervalSplits(1, 2, 1, 1);
        for (int key = 1; key <= 5; key++) {
            x.put(key, 1);
        }
        Check.layout("5: before", "1[1] | 2[2] | 3[3] | 4[4] 5[5]", x);
        x.remove(4);
        Check.layout("5: an interval goes", "1[1] | 2[2] | 3[3] | 5[5]", x);
        Check.due("5: its area stays", 4, x.count(2));
        x.remove(2);
        Check.layout("5: an area goes", "1[1] | 3[3] | 5[5]", x);
        Check.due("5: areas", 3, x.count(2));
        x.remove(1);
        Check.layout("5: the first area goes", "3[3] | 5[5]", x);
        x.put(0, 1);
        Check.layout("5: a number is not used again", "6[0] 3[3] | 5[5]", x);
        IntervalSplits wide = new IntervalSplits(1, 4, 1, 1);
        for (int key = 1; key <= 5; key++) {
            wide.put(key, 1);
        }
        Check.layout("5: wide", "1[1] 2[2] | 3[3] 4[4] 5[5]", wide);
        wide.remove(1);
        Check.layout("5: wide, an interval goes", "2[2] | 3[3] 4[4] 5[5]", wide);
        wide.remove(2);
        Check.layout("5: wide, an area goes", "3[3] 4[4] 5[5]", wide);
        Check.due("5: wide, one area", 1, wide.count(2));
        IntervalSplits y = full();
        y.put(3, 1);
        y.put(4, 1);
        y.remove(2);
        y.put(2, 1);
        Check.layout("5: the first key of an interval rises", "1[1 2] 2[3 4]", y);
    }

    private static void promise6Interval() {
        IntervalSplits x = new IntervalSplits(10, 2, 1, 1);
        x.put(5, 4);
        x.put(7, 4);
        x.put(6, 4);
        x.put(8, 10);
        int[][] due = {{1, 2, 8, 0}, {2, 1, 4, 1}, {3, 1, 10, 1}};
        for (int i = 0; i < due.length; i++) {
            for (int what = 0; what < 4; what++) {
                Check.due("6: interval " + i + " " + what, due[i][what], x.interval(i, what));
            }
        }
        int[] wrong = {-1, Integer.MIN_VALUE, 4, Integer.MAX_VALUE};
        for (int other : wrong) {
            Check.due("6: wrong i " + other, NONE, x.interval(other, 0));
            Check.due("6: wrong what " + other, NONE, x.interval(0, other));
        }
        Check.due("6: i behind the last", NONE, x.interval(3, 0));
        IntervalSplits empty = new IntervalSplits(10, 2, 1, 1);
        int[] ofEmpty = {1, 0, 0, 0};
        for (int what = 0; what < 4; what++) {
            Check.due("6: empty " + what, ofEmpty[what], empty.interval(0, what));
        }
    }

    private static void promise7Cut() {
        IntervalSplits x = full();
        Check.due("7: first", 0, x.cut(4));
        Check.due("7: what was told", 4, x.cut(1));
        Check.due("7: no cut", 1, x.cut(0));
        int[] wrong = {-1, 5, Integer.MIN_VALUE, Integer.MAX_VALUE};
        for (int write : wrong) {
            Check.due("7: wrong write " + write, NONE, x.cut(write));
        }
        Check.due("7: wrong ones change nothing", 0, x.cut(3));
        Check.due("7: no cut again", 3, x.cut(0));
        Check.due("7: put without a cut", 1, x.put(3, 5));
        x.cut(2);
        Check.due("7: a put without a split is not cut", 1, x.put(0, 5));
        Check.due("7: reorganising is no split", 2, x.reorganise());
        Check.due("7: the cut waits", 2, x.cut(2));
        Check.due("7: the next split is cut", CLOSED, x.put(4, 5));
        Check.due("7: closed", CLOSED, x.cut(1));
        Check.due("7: closed, wrong write", CLOSED, x.cut(9));
        x.open();
        Check.due("7: told once, cut once", 0, x.cut(0));
        Check.due("7: put after it", 1, x.put(4, 5));
    }

    private static void promise8OpenAfterHalving() {
        for (int write = 1; write <= 4; write++) {
            IntervalSplits x = full();
            int used = write > 2 ? 1 : 0;
            Check.due("8: not closed", 0, x.open());
            x.cut(write);
            Check.due("8: cut " + write, CLOSED, x.put(3, 5));
            Check.due("8: number " + write, 2 + used, x.count(4));
            Check.layout("8: closed " + write, "1[1 2]", x);
            Check.due("8: open " + write, write == 4 ? 2 : 1, x.open());
            Check.due("8: open again " + write, 0, x.open());
            Check.due("8: number stays " + write, 2 + used, x.count(4));
            Check.layout("8: opened " + write, write == 4 ? "1[1] 2[2]" : "1[1 2]", x);
            Check.due("8: put at last " + write, 1, x.put(3, 5));
            String due = write == 3 ? "1[1] 3[2 3]" : "1[1] 2[2 3]";
            Check.layout("8: at last " + write, due, x);
        }
    }

    private static void promise8OpenAfterOwnInterval() {
        long[] keys = {1, 9};
        for (long key : keys) {
            for (int write = 1; write <= 4; write++) {
                IntervalSplits x = new IntervalSplits(10, 2, 1, 1);
                x.put(5, 10);
                x.cut(write);
                Check.due("8: own cut " + write, CLOSED, x.put(key, 1));
                Check.layout("8: own closed " + write, "1[5]", x);
                Check.due("8: own open " + write, write == 4 ? 2 : 1, x.open());
                Check.layout("8: own, the empty one goes " + write, "1[5]", x);
                Check.due("8: own number " + write, write > 2 ? 3 : 2, x.count(4));
                Check.due("8: own split " + write, write == 4 ? 1 : 0, x.split(0));
                Check.due("8: own undone " + write, write == 4 ? 0 : 1, x.split(2));
                Check.due("8: own finished " + write, write == 4 ? 1 : 0, x.split(3));
                Check.due("8: own area " + write, 1, x.count(2));
                Check.due("8: own verify " + write, 0, x.verify());
            }
        }
    }

    private static void promise8OpenAfterAreaSplit() {
        for (int write = 1; write <= 4; write++) {
            IntervalSplits x = new IntervalSplits(1, 3, 1, 1);
            x.put(1, 1);
            x.put(2, 1);
            x.put(3, 1);
            x.cut(write);
            Check.due("8: area cut " + write, CLOSED, x.put(4, 1));
            Check.due("8: area number " + write, 4, x.count(4));
            Check.layout("8: area closed " + write, "1[1] 2[2] 3[3]", x);
            Check.due("8: area splits while closed " + write, 0, x.split(1));
            Check.due("8: area open " + write, write == 4 ? 2 : 1, x.open());
            Check.layout("8: area opened " + write,
                write == 4 ? "1[1] 2[2] | 3[3]" : "1[1] 2[2] 3[3]", x);
            Check.due("8: area splits " + write, write == 4 ? 1 : 0, x.split(1));
            Check.due("8: area, interval splits " + write, 2, x.split(0));
            Check.due("8: area put at last " + write, 1, x.put(4, 1));
            Check.layout("8: area at last " + write, "1[1] 2[2] | 3[3] 4[4]", x);
        }
    }

    private static void promise9Split() {
        IntervalSplits x = new IntervalSplits(1, 2, 1, 1);
        x.put(1, 1);
        x.put(2, 1);
        x.put(3, 1);
        x.cut(1);
        x.put(4, 1);
        int[] closed = {2, 1, 0, 0};
        for (int what = 0; what < 4; what++) {
            Check.due("9: closed, split " + what, closed[what], x.split(what));
        }
        x.open();
        x.cut(4);
        x.put(4, 1);
        x.open();
        x.put(4, 1);
        x.cut(4);
        x.put(5, 1);
        x.open();
        x.reorganise();
        int[] due = {3, 3, 1, 2};
        for (int what = 0; what < 4; what++) {
            Check.due("9: split " + what, due[what], x.split(what));
        }
        int[] wrong = {-1, 4, Integer.MIN_VALUE, Integer.MAX_VALUE};
        for (int what : wrong) {
            Check.due("9: split " + what, NONE, x.split(what));
        }
    }

    private static void promise10Index() {
        IntervalSplits x = new IntervalSplits(1, 3, 1, 1);
        long[] keys = {Long.MIN_VALUE + 7, -1, 5, 0x123456789ABCDEF0L};
        for (long key : keys) {
            x.put(key, 1);
        }
        for (int i = 0; i < keys.length; i++) {
            Check.due("10: level 0, " + i, (int) keys[i], x.index(0, i));
        }
        Check.due("10: level 1, 0", 7, x.index(1, 0));
        Check.due("10: level 1, 1", 5, x.index(1, 1));
        int[][] wrong = {{0, 4}, {0, -1}, {1, 2}, {1, -1}, {2, 0}, {-1, 0},
            {Integer.MIN_VALUE, 0}, {Integer.MAX_VALUE, 0}, {0, Integer.MIN_VALUE},
            {0, Integer.MAX_VALUE}, {1, Integer.MIN_VALUE}, {1, Integer.MAX_VALUE}};
        for (int[] row : wrong) {
            Check.indexThrows("10: level " + row[0] + ", " + row[1], x, row[0], row[1]);
        }
        IntervalSplits empty = full();
        empty.remove(1);
        empty.remove(2);
        Check.due("10: empty, level 0", 0, empty.index(0, 0));
        Check.due("10: empty, level 1", 0, empty.index(1, 0));
        Check.indexThrows("10: empty, level 0, 1", empty, 0, 1);
        Check.indexThrows("10: empty, level 1, 1", empty, 1, 1);
    }

    private static void promise11Verify() {
        IntervalSplits x = new IntervalSplits(7, 3, 2, 3);
        Check.due("11: new", 0, x.verify());
        for (int i = 0; i < 120; i++) {
            x.put((i * 37L) % 101, 1 + i % 7);
            Check.due("11: after put " + i, 0, x.verify());
        }
        Check.due("11: there is something to verify", 1, x.count(2) > 5 ? 1 : 0);
        x.reorganise();
        Check.due("11: reorganised", 0, x.verify());
        x.cut(4);
        for (int i = 200; i < 210; i++) {
            x.put(i, 7);
        }
        Check.due("11: it is closed", 1, x.count(3));
        Check.due("11: closed", 0, x.verify());
    }

    private static void promise12Reorganise() {
        IntervalSplits x = new IntervalSplits(10, 5, 1, 2);
        int[] lengths = {2, 3, 1, 4, 1, 6, 5, 1};
        for (int i = 0; i < lengths.length; i++) {
            x.put(i, lengths[i]);
        }
        int splits = x.split(0);
        int number = x.count(4);
        Check.due("12: intervals", 6, x.reorganise());
        Check.layout("12: half of each", number + "[0 1] " + (number + 1) + "[2 3] | "
            + (number + 2) + "[4] " + (number + 3) + "[5] | "
            + (number + 4) + "[6] " + (number + 5) + "[7]", x);
        Check.due("12: nothing counts as a split", splits, x.split(0));
        Check.due("12: areas", 3, x.count(2));
        Check.due("12: next number", number + 6, x.count(4));
        IntervalSplits whole = new IntervalSplits(10, 2, 1, 1);
        whole.put(1, 10);
        whole.put(2, 1);
        whole.put(3, 10);
        whole.remove(1);
        Check.due("12: whole room", 2, whole.reorganise());
        Check.layout("12: whole", "4[2] 5[3]", whole);
    }

    private static void promise12OneAtLeast() {
        IntervalSplits x = new IntervalSplits(3, 2, 1, 100);
        x.put(1, 1);
        x.put(2, 1);
        x.put(3, 3);
        Check.due("12: one at least", 3, x.reorganise());
        Check.due("12: an area for each", 3, x.count(2));
        x.remove(1);
        x.remove(2);
        x.remove(3);
        Check.due("12: without records", 1, x.reorganise());
        Check.layout("12: one new interval", "7[]", x);
        Check.due("12: one area", 1, x.count(2));
        IntervalSplits third = new IntervalSplits(10, 8, 1, 3);
        for (int key = 1; key <= 5; key++) {
            third.put(key, 2);
        }
        Check.due("12: whole part of 10 / 3", 5, third.reorganise());
        Check.due("12: whole part of 8 / 3", 3, third.count(2));
    }

    private static void promise13Order() {
        IntervalSplits x = new IntervalSplits(4, 2, 1, 1);
        long[] keys = {Long.MIN_VALUE, -3, 0, 4, 1L << 40, Long.MAX_VALUE};
        int[] coming = {3, 5, 0, 2, 4, 1};
        for (int i : coming) {
            x.put(keys[i], 3);
        }
        for (int i = 0; i < keys.length; i++) {
            Check.due("13: order " + i, keys[i], x.order(i));
        }
        int[] wrong = {-1, 6, 600, 601, Integer.MIN_VALUE, Integer.MAX_VALUE};
        for (int i : wrong) {
            Check.due("13: order " + i, 0, x.order(i));
        }
        x.remove(Long.MAX_VALUE);
        Check.due("13: what was removed", 0, x.order(5));
    }

    private static void promise14Count() {
        IntervalSplits x = new IntervalSplits(10, 2, 1, 1);
        x.put(5, 4);
        x.put(7, 4);
        x.put(6, 4);
        x.put(8, 10);
        int[] due = {4, 3, 2, 0, 4, 22};
        for (int what = 0; what < due.length; what++) {
            Check.due("14: count " + what, due[what], x.count(what));
        }
        int[] wrong = {-1, 6, Integer.MIN_VALUE, Integer.MAX_VALUE};
        for (int what : wrong) {
            Check.due("14: count " + what, NONE, x.count(what));
        }
    }

    private static void closedAnswers() {
        IntervalSplits x = full();
        x.cut(4);
        x.put(3, 5);
        Check.due("closed: put new", CLOSED, x.put(4, 1));
        Check.due("closed: put old", CLOSED, x.put(1, 1));
        Check.due("closed: put wrong", CLOSED, x.put(4, 0));
        Check.due("closed: remove", CLOSED, x.remove(1));
        Check.due("closed: remove none", CLOSED, x.remove(7));
        Check.due("closed: cut", CLOSED, x.cut(0));
        Check.due("closed: reorganise", CLOSED, x.reorganise());
        Check.due("closed: find", 1, x.find(2));
        Check.due("closed: find the cut one", NONE, x.find(3));
        Check.due("closed: next", 1, x.next(1));
        Check.due("closed: order", 2, x.order(1));
        Check.due("closed: index", 1, x.index(0, 0));
        Check.indexThrows("closed: index", x, 0, 1);
        Check.due("closed: interval", 2, x.interval(0, 1));
        Check.due("closed: split", 0, x.split(0));
        Check.due("closed: finished", 0, x.split(3));
        Check.due("closed: verify", 0, x.verify());
        int[] counts = {2, 1, 1, 1, 3, 10};
        for (int what = 0; what < counts.length; what++) {
            Check.due("closed: count " + what, counts[what], x.count(what));
        }
        Check.due("closed: open", 2, x.open());
        Check.due("opened: closed no more", 0, x.count(3));
        Check.due("opened: put", 1, x.put(3, 5));
    }
}
