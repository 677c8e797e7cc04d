/**
 * The sentences of "Terms" on cuts, on what is finished or undone, and on what is answered while
 * the storage is closed; each for every kind of split and every write. The sentence is quoted
 * above the method.
 */
public final class CutTest {
    private static final int NONE = IntervalSplits.NONE;
    private static final int CLOSED = -5;

    /** A storage, a record whose put begins a split of one kind, and what is due of that split. */
    private record Case(String name, int room, int width, long[][] records, long key, int length,
            boolean newInterval, String before, String finished) {

        IntervalSplits storage() {
            IntervalSplits x = new IntervalSplits(room, width, 1, 1);
            for (long[] each : records) {
                Check.due(name + ": put of " + each[0], 1, x.put(each[0], (int) each[1]));
            }
            return x;
        }

        IntervalSplits cutAheadOf(int write) {
            IntervalSplits x = storage();
            Check.due(name + ": cut ahead of " + write, 0, x.cut(write));
            Check.due(name + ": put, cut ahead of " + write, CLOSED, x.put(key, length));
            return x;
        }
    }

    private static final Case[] CASES = {
        new Case("halves", 10, 3, new long[][] {{1, 5}, {2, 5}}, 3, 5, true,
            "1[1 2]", "1[1] 2[2]"),
        new Case("own behind", 10, 2, new long[][] {{5, 10}}, 9, 1, true, "1[5]", "1[5]"),
        new Case("own ahead", 10, 2, new long[][] {{5, 10}}, 1, 1, true, "1[5]", "1[5]"),
        new Case("own in the second area", 1, 3, new long[][] {{1, 1}, {2, 1}, {3, 1}, {4, 1}}, 5, 1,
            true, "1[1] 2[2] | 3[3] 4[4]", "1[1] 2[2] | 3[3] 4[4]"),
        new Case("area", 1, 3, new long[][] {{1, 1}, {2, 1}, {3, 1}}, 4, 1, false,
            "1[1] 2[2] 3[3]", "1[1] 2[2] | 3[3]"),
    };

    private CutTest() {
    }

    public static void main(String[] args) {
        for (Case each : CASES) {
            for (int write = 1; write <= 4; write++) {
                notPutAndClosed(each, write);
                asBeforeWhileClosed(each, write);
                othersRefusedWhileClosed(each, write);
                finishedWithItsRow(each, write);
                undoneWithoutItsRow(each, write);
                numberUsedUp(each, write);
                openedForGood(each, write);
            }
        }
        numbersAfterwards();
        ownIntervalGoesAgain();
        onlyTheNextSplitIsCut();
        cutTwiceInOnePut();
        Check.end();
    }

    private static String at(Case each, int write) {
        return each.name() + ", ahead of " + write + ": ";
    }

    /** "A CUT comes ahead of one of them (it is not done): .. CLOSED, the record is not put." */
    private static void notPutAndClosed(Case each, int write) {
        IntervalSplits x = each.storage();
        Check.due(at(each, write) + "not closed before", 0, x.count(3));
        x = each.cutAheadOf(write);
        Check.due(at(each, write) + "closed", 1, x.count(3));
        Check.due(at(each, write) + "not put", NONE, x.find(each.key()));
        Check.due(at(each, write) + "records", each.records().length, x.count(0));
        x.open();
        Check.due(at(each, write) + "not put by opening", NONE, x.find(each.key()));
        Check.due(at(each, write) + "records after opening", each.records().length, x.count(0));
    }

    /** "While it is closed .. (all is as it was before the split then, but count 4)". */
    private static void asBeforeWhileClosed(Case each, int write) {
        String before = Check.stateOf(each.storage());
        IntervalSplits x = each.cutAheadOf(write);
        Check.same(at(each, write) + "closed", before, x);
        Check.layout(at(each, write) + "closed", each.before(), x);
        Check.indexThrows(at(each, write) + "no new interval", x, 0, x.count(1));
        Check.indexThrows(at(each, write) + "no new area", x, 1, x.count(2));
        Check.due(at(each, write) + "no new interval", NONE, x.interval(x.count(1), 0));
        Check.due(at(each, write) + "no new record", 0, x.order(x.count(0)));
    }

    /** "While it is closed only open(), and what only asks are answered ..; others -5." */
    private static void othersRefusedWhileClosed(Case each, int write) {
        IntervalSplits x = each.cutAheadOf(write);
        String closed = Check.stateOf(x);
        int number = x.count(4);
        long there = each.records()[0][0];
        Check.due(at(each, write) + "put the same", CLOSED, x.put(each.key(), each.length()));
        Check.due(at(each, write) + "put another", CLOSED, x.put(77, 1));
        Check.due(at(each, write) + "put one that is there", CLOSED, x.put(there, 1));
        Check.due(at(each, write) + "put too short", CLOSED, x.put(77, 0));
        Check.due(at(each, write) + "put too long", CLOSED, x.put(77, each.room() + 1));
        Check.due(at(each, write) + "remove", CLOSED, x.remove(there));
        Check.due(at(each, write) + "remove none", CLOSED, x.remove(77));
        int[] writes = {0, 1, 2, 3, 4, -1, 5, Integer.MIN_VALUE, Integer.MAX_VALUE};
        for (int told : writes) {
            Check.due(at(each, write) + "cut " + told, CLOSED, x.cut(told));
        }
        Check.due(at(each, write) + "reorganise", CLOSED, x.reorganise());
        Check.same(at(each, write) + "after what was refused", closed, x);
        Check.due(at(each, write) + "number after it", number, x.count(4));
        Check.due(at(each, write) + "closed after it", 1, x.count(3));
        Check.due(at(each, write) + "open after it", write == 4 ? 2 : 1, x.open());
        Check.due(at(each, write) + "no cut was told while closed", 0, x.cut(0));
    }

    /** "When it is OPENED again, a split that has its row of the index is FINISHED". */
    private static void finishedWithItsRow(Case each, int write) {
        if (write != 4) {
            return;
        }
        IntervalSplits before = each.storage();
        IntervalSplits x = each.cutAheadOf(write);
        Check.due(at(each, write) + "open", 2, x.open());
        Check.layout(at(each, write) + "finished", each.finished(), x);
        int intervals = each.newInterval() ? 1 : 0;
        Check.due(at(each, write) + "interval splits", before.split(0) + intervals, x.split(0));
        Check.due(at(each, write) + "area splits", before.split(1) + 1 - intervals, x.split(1));
        Check.due(at(each, write) + "undone", 0, x.split(2));
        Check.due(at(each, write) + "finished", 1, x.split(3));
        Check.rules(at(each, write) + "finished", x, each.room(), each.width());
    }

    /** "one that hasn't is UNDONE (as if it was not begun". */
    private static void undoneWithoutItsRow(Case each, int write) {
        if (write == 4) {
            return;
        }
        IntervalSplits before = each.storage();
        IntervalSplits x = each.cutAheadOf(write);
        Check.due(at(each, write) + "open", 1, x.open());
        Check.layout(at(each, write) + "undone", each.before(), x);
        Check.due(at(each, write) + "interval splits", before.split(0), x.split(0));
        Check.due(at(each, write) + "area splits", before.split(1), x.split(1));
        Check.due(at(each, write) + "undone", 1, x.split(2));
        Check.due(at(each, write) + "finished", 0, x.split(3));
    }

    /** "the number of a new interval is used up from write 2 on)". */
    private static void numberUsedUp(Case each, int write) {
        int number = each.storage().count(4);
        int due = each.newInterval() && write > 2 ? number + 1 : number;
        IntervalSplits x = each.cutAheadOf(write);
        Check.due(at(each, write) + "number while closed", due, x.count(4));
        x.open();
        Check.due(at(each, write) + "number when opened", due, x.count(4));
    }

    /** "When it is OPENED again": then all is answered again, and there is nothing more to open. */
    private static void openedForGood(Case each, int write) {
        IntervalSplits x = each.cutAheadOf(write);
        x.open();
        Check.due(at(each, write) + "closed no more", 0, x.count(3));
        String opened = Check.stateOf(x);
        Check.due(at(each, write) + "open again", 0, x.open());
        Check.same(at(each, write) + "open again", opened, x);
        Check.due(at(each, write) + "the cut is used up", 0, x.cut(0));
        Check.due(at(each, write) + "put at last", 1, x.put(each.key(), each.length()));
        Check.due(at(each, write) + "remove", 1, x.remove(each.key()));
    }

    private static void afterwards(Case each, String... dueByWrite) {
        for (int write = 1; write <= 4; write++) {
            IntervalSplits x = each.cutAheadOf(write);
            x.open();
            x.put(each.key(), each.length());
            Check.layout(at(each, write) + "afterwards", dueByWrite[write - 1], x);
        }
    }

    /** "the number of a new interval is used up from write 2 on)": seen by the next put. */
    private static void numbersAfterwards() {
        afterwards(CASES[0], "1[1] 2[2 3]", "1[1] 2[2 3]", "1[1] 3[2 3]", "1[1] 2[2 3]");
        afterwards(CASES[1], "1[5] 2[9]", "1[5] 2[9]", "1[5] 3[9]", "1[5] 3[9]");
        afterwards(CASES[2], "2[1] 1[5]", "2[1] 1[5]", "3[1] 1[5]", "3[1] 1[5]");
        String second = "1[1] 2[2] | 3[3] 4[4] ";
        afterwards(CASES[3], second + "5[5]", second + "5[5]", second + "6[5]", second + "6[5]");
        String area = "1[1] 2[2] | 3[3] 4[4]";
        afterwards(CASES[4], area, area, area, area);
    }

    /** "an interval that is finished so is empty: it goes again, as by removing.)" */
    private static void ownIntervalGoesAgain() {
        IntervalSplits x = new IntervalSplits(10, 2, 1, 1);
        x.put(5, 10);
        for (int times = 1; times <= 5; times++) {
            x.cut(4);
            Check.due("goes again: cut " + times, CLOSED, x.put(times % 2 == 0 ? 1 : 9, 1));
            Check.due("goes again: open " + times, 2, x.open());
            Check.layout("goes again " + times, "1[5]", x);
            Check.due("goes again: intervals " + times, 1, x.count(1));
            Check.due("goes again: areas " + times, 1, x.count(2));
            Check.due("goes again: number " + times, 2 + times, x.count(4));
            Check.due("goes again: interval splits " + times, times, x.split(0));
            Check.due("goes again: finished " + times, times, x.split(3));
            Check.due("goes again: first key " + times, 5, x.index(0, 0));
        }
        Check.due("goes again: put at last", 1, x.put(9, 1));
        Check.layout("goes again: at last", "1[5] 7[9]", x);
        Check.due("goes again: no area split", 0, x.split(1));
    }

    /** A cut is told for one split: those behind it are done. */
    private static void onlyTheNextSplitIsCut() {
        IntervalSplits x = new IntervalSplits(8, 2, 1, 1);
        for (int key = 1; key <= 8; key++) {
            x.put(key * 10, 1);
        }
        x.cut(4);
        Check.due("next split: cut", CLOSED, x.put(15, 8));
        Check.due("next split: open", 2, x.open());
        Check.layout("next split: one only", "1[10 20 30 40] 2[50 60 70 80]", x);
        Check.due("next split: the others are done", 1, x.put(15, 8));
        Check.layout("next split: all", "1[10] 5[15] | 4[20] | 3[30 40] | 2[50 60 70 80]", x);
        Check.due("next split: interval splits", 4, x.split(0));
        Check.due("next split: area splits", 3, x.split(1));
        Check.due("next split: finished", 1, x.split(3));
    }

    /** A put that needs an area split and then an interval split, each of them cut. */
    private static void cutTwiceInOnePut() {
        IntervalSplits x = CASES[4].cutAheadOf(4);
        x.open();
        x.cut(3);
        Check.due("twice: cut again", CLOSED, x.put(4, 1));
        Check.layout("twice: the area split stays", "1[1] 2[2] | 3[3]", x);
        Check.due("twice: undone", 1, x.open());
        Check.layout("twice: the area split stays when opened", "1[1] 2[2] | 3[3]", x);
        Check.due("twice: put", 1, x.put(4, 1));
        Check.layout("twice: put", "1[1] 2[2] | 3[3] 5[4]", x);
        int[] due = {3, 1, 1, 1};
        for (int what = 0; what < due.length; what++) {
            Check.due("twice: split " + what, due[what], x.split(what));
        }
    }
}
