/**
 * One method or more for each sentence of "What it is" and "Terms" that names a boundary; the
 * sentence is quoted above the method.
 */
public final class TermsTest {
    private static final int NONE = IntervalSplits.NONE;

    private TermsTest() {
    }

    public static void main(String[] args) {
        the512thCall();
        keysHaveASign();
        keysHave64Bits();
        lengthsFromOneOn();
        atMost600();
        roomForLengthsTogether();
        widthOfAnArea();
        numbersAsTheyCameToBe();
        numbersNeverUsedAgain();
        firstOneEmptyInterval();
        keyBelongsToTheLastNotGreater();
        keyBelongsElseToTheFirst();
        emptyOnlyAsTheOnlyOne();
        splitsWhileThereIsNoRoom();
        lookedForAnew();
        lessThanWidth();
        atMostHalfOfItsLengths();
        oneAtLeastIsKept();
        notAllIsKept();
        oneRecordOnlyBehind();
        oneRecordOnlyAhead();
        ownIntervalIsASplit();
        lastHalfOfWidth();
        newAreaBehindTheOld();
        removedIntervalGoes();
        theOnlyIntervalStays();
        areaWithoutIntervalsGoes();
        Check.end();
    }

    private static IntervalSplits storage(int room, int width) {
        return new IntervalSplits(room, width, 1, 1);
    }

    /** Records with the keys 1, 2, .. and these lengths. */
    private static IntervalSplits withLengths(int room, int width, int... lengths) {
        IntervalSplits x = storage(room, width);
        for (int i = 0; i < lengths.length; i++) {
            Check.due("put of length " + lengths[i], 1, x.put(i + 1, lengths[i]));
        }
        return x;
    }

    /** ROOM 1, so each of these keys has an interval of its own. */
    private static IntervalSplits withKeys(int width, long... keys) {
        IntervalSplits x = storage(1, width);
        for (long key : keys) {
            Check.due("put of key " + key, 1, x.put(key, 1));
        }
        return x;
    }

    private static IntervalSplits after511Calls() {
        IntervalSplits x = storage(1, 2);
        for (int key = 1; key <= 511; key++) {
            Check.due("512: put " + key, 1, x.put(key, 1));
        }
        return x;
    }

    /** "An object is used for at most 512 calls after it has been made". */
    private static void the512thCall() {
        Check.due("512: put", 1, after511Calls().put(512, 1));
        Check.due("512: put again", 0, after511Calls().put(511, 1));
        Check.due("512: put too long", -1, after511Calls().put(512, 2));
        Check.due("512: find", 511, after511Calls().find(511));
        Check.due("512: next", 510, after511Calls().next(510));
        Check.due("512: no next", NONE, after511Calls().next(511));
        Check.due("512: remove", 1, after511Calls().remove(1));
        Check.due("512: interval", 511, after511Calls().interval(510, 0));
        Check.due("512: its area", 509, after511Calls().interval(510, 3));
        Check.due("512: no interval", NONE, after511Calls().interval(511, 0));
        Check.due("512: cut", 0, after511Calls().cut(4));
        Check.due("512: open", 0, after511Calls().open());
        Check.due("512: interval splits", 510, after511Calls().split(0));
        Check.due("512: area splits", 509, after511Calls().split(1));
        Check.due("512: index", 511, after511Calls().index(0, 510));
        Check.indexThrows("512: no index", after511Calls(), 0, 511);
        Check.due("512: verify", 0, after511Calls().verify());
        Check.due("512: reorganise", 511, after511Calls().reorganise());
        Check.due("512: order", 511, after511Calls().order(510));
        Check.due("512: no order", 0, after511Calls().order(511));
        int[] counts = {511, 511, 510, 0, 512, 511};
        for (int what = 0; what < counts.length; what++) {
            Check.due("512: count " + what, counts[what], after511Calls().count(what));
        }
    }

    /** "RECORDS have a KEY (64 bits, with sign)". */
    private static void keysHaveASign() {
        long least = Long.MIN_VALUE;
        long most = Long.MAX_VALUE;
        IntervalSplits x = withKeys(20, 0, -1, 1, least, most);
        Check.layout("sign", "4[" + least + "] 2[-1] 1[0] 3[1] 5[" + most + "]", x);
        Check.due("sign: next of the least", 1, x.next(least));
        Check.due("sign: next of the greatest", NONE, x.next(most));
        Check.layout("sign: least ahead of greatest", "2[" + least + "] 1[" + most + "]",
            withKeys(20, most, least));
        Check.layout("sign: greatest behind least", "1[" + least + "] 2[" + most + "]",
            withKeys(20, least, most));
    }

    /** "RECORDS have a KEY (64 bits, with sign)". */
    private static void keysHave64Bits() {
        IntervalSplits x = withLengths(10, 2, 1);
        long[] others = {1L + (1L << 32), 1L + (1L << 62), 1L + Long.MIN_VALUE, -1L};
        for (long key : others) {
            Check.due("64 bits: not there " + key, NONE, x.find(key));
            Check.due("64 bits: nothing to remove " + key, 0, x.remove(key));
            Check.due("64 bits: another key " + key, 1, x.put(key, 1));
        }
        Check.due("64 bits: all there", 5, x.count(0));
    }

    /** "and a LENGTH from 1 on". */
    private static void lengthsFromOneOn() {
        IntervalSplits x = storage(10, 2);
        Check.due("length 1", 1, x.put(1, 1));
        Check.due("length 0", -1, x.put(2, 0));
        Check.due("length -1", -1, x.put(2, -1));
        Check.due("length least", -1, x.put(2, Integer.MIN_VALUE));
        Check.due("lengths", 1, x.count(5));
    }

    /** "at most 600": not to be reached in 512 calls, but refused all the same. */
    private static void atMost600() {
        IntervalSplits x = storage(1, 20);
        for (int key = 0; key < 600; key++) {
            Check.due("600: put number " + key, 1, x.put(key, 1));
        }
        Check.due("600: one more", -1, x.put(600, 1));
        Check.due("600: a key that is there", 0, x.put(599, 1));
        Check.due("600: all in intervals of their own", 600, x.count(1));
        Check.due("600: none came", 600, x.count(0));
        long[] leaving = {0, 300, 599};
        for (long key : leaving) {
            Check.due("600: remove " + key, 1, x.remove(key));
            Check.due("600: removed " + key, 599, x.count(1));
            Check.due("600: room for one again", 1, x.put(key - 1000, 1));
            Check.due("600: and no more", -1, x.put(1000, 1));
        }
        Check.rules("600", x, 1, 20);
    }

    /** "An INTERVAL has room for so many lengths together (ROOM)". */
    private static void roomForLengthsTogether() {
        int[] rooms = {2, 3, 10, 999, 1000};
        for (int room : rooms) {
            IntervalSplits x = withLengths(room, 2, room - 1, 1);
            Check.layout("ROOM " + room + " is full", "1[1 2]", x);
            x.put(3, 1);
            Check.due("ROOM " + room + " and one more", 2, x.count(1));
        }
        Check.layout("ROOM 1", "1[1] 2[2]", withLengths(1, 2, 1, 1));
        IntervalSplits freed = withLengths(10, 2, 4, 6);
        freed.remove(1);
        freed.put(3, 4);
        Check.layout("ROOM that a removed record leaves", "1[2 3]", freed);
    }

    /** "an AREA has so many intervals at most (WIDTH)". */
    private static void widthOfAnArea() {
        for (int width = 2; width <= 20; width++) {
            IntervalSplits x = storage(1, width);
            for (int key = 1; key <= width; key++) {
                x.put(key, 1);
            }
            Check.due("WIDTH " + width + ", intervals", width, x.count(1));
            Check.due("WIDTH " + width + " is full", 1, x.count(2));
            x.put(width + 1, 1);
            Check.due("WIDTH " + width + " and one more", 2, x.count(2));
        }
    }

    /** "Intervals have numbers from 1 on, as they came to be". */
    private static void numbersAsTheyCameToBe() {
        Check.due("number of the first", 1, storage(10, 2).interval(0, 0));
        Check.due("number of the next", 2, storage(10, 2).count(4));
        IntervalSplits x = withKeys(5, 50, 30, 70, 60);
        Check.layout("numbers", "2[30] 1[50] 4[60] 3[70]", x);
        Check.due("the next number", 5, x.count(4));
    }

    /** "(never used again)". */
    private static void numbersNeverUsedAgain() {
        IntervalSplits x = withKeys(5, 50, 60);
        x.remove(60);
        Check.due("again: after removing the newest", 3, x.count(4));
        x.put(60, 1);
        Check.layout("again: another number", "1[50] 3[60]", x);
        x.remove(50);
        x.put(50, 1);
        Check.layout("again: the first number too", "4[50] 3[60]", x);
        x.reorganise();
        Check.layout("again: all new by reorganising", "5[50] 6[60]", x);
        x.remove(50);
        x.remove(60);
        Check.layout("again: the only one keeps its number", "6[]", x);
        x.reorganise();
        Check.layout("again: new without records too", "7[]", x);
    }

    /** "They stand in the order of keys, areas too: first one area with one interval, empty." */
    private static void firstOneEmptyInterval() {
        IntervalSplits x = storage(10, 2);
        int[] ofInterval = {1, 0, 0, 0};
        for (int what = 0; what < ofInterval.length; what++) {
            Check.due("first: interval 0, " + what, ofInterval[what], x.interval(0, what));
        }
        int[] counts = {0, 1, 1, 0, 2, 0};
        for (int what = 0; what < counts.length; what++) {
            Check.due("first: count " + what, counts[what], x.count(what));
        }
        x.put(7, 10);
        Check.layout("first: a record comes to the only one", "1[7]", x);
        IntervalSplits y = withKeys(2, 40, 20, 30, 10, 50);
        Check.layout("order of intervals and areas", "2[20] 3[30] | 1[40]", withKeys(2, 40, 20, 30));
        Check.layout("order, more", "4[10] 2[20] | 3[30] | 1[40] 5[50]", y);
    }

    /** "A key BELONGS to the last interval whose first record's key is not greater". */
    private static void keyBelongsToTheLastNotGreater() {
        IntervalSplits x = storage(10, 5);
        x.put(10, 5);
        x.put(20, 5);
        x.put(30, 5);
        Check.layout("belongs: two intervals", "1[10] 2[20 30]", x);
        x.put(19, 1);
        Check.layout("belongs: one below a first key", "1[10 19] 2[20 30]", x);
        Check.due("belongs: equal to a first key", 2, x.find(20));
        Check.due("belongs: equal to a first key is there", 0, x.put(20, 1));
        x.put(21, 1);
        Check.layout("belongs: one above a first key", "1[10 19] 2[20 21] 3[30]", x);
        x.put(29, 1);
        x.put(31, 1);
        x.put(Long.MAX_VALUE, 1);
        Check.layout("belongs: above all to the last",
            "1[10 19] 2[20 21 29] 3[30 31 " + Long.MAX_VALUE + "]", x);
        x.remove(20);
        x.put(20, 1);
        Check.layout("belongs: the first record's key has risen",
            "1[10 19 20] 2[21 29] 3[30 31 " + Long.MAX_VALUE + "]", x);
    }

    /** "else to the first one". */
    private static void keyBelongsElseToTheFirst() {
        IntervalSplits x = storage(10, 5);
        x.put(10, 5);
        x.put(20, 5);
        x.put(30, 5);
        x.put(9, 1);
        Check.layout("ahead of the first record's", "1[9 10] 2[20 30]", x);
        x.put(Long.MIN_VALUE, 1);
        Check.layout("ahead of all", "1[" + Long.MIN_VALUE + " 9 10] 2[20 30]", x);
        x.put(8, 4);
        Check.layout("ahead of the first, split",
            "1[" + Long.MIN_VALUE + " 8 9] 3[10] 2[20 30]", x);
    }

    /** "(An empty interval is never there but as the only one.)" */
    private static void emptyOnlyAsTheOnlyOne() {
        IntervalSplits x = withKeys(3, 1, 2, 3, 4, 5, 6);
        x.cut(4);
        x.put(7, 1);
        x.open();
        x.cut(4);
        x.put(7, 1);
        x.open();
        Check.rules("empty: after splits that were cut", x, 1, 3);
        long[] leaving = {3, 6, 1, 2, 5, 4};
        for (long key : leaving) {
            Check.due("empty: remove " + key, 1, x.remove(key));
            Check.rules("empty: after removing " + key, x, 1, 3);
        }
        Check.due("empty: the only one", 1, x.count(1));
        Check.due("empty: it is empty", 0, x.interval(0, 1));
    }

    /** "while that has no room for it, there is a SPLIT". */
    private static void splitsWhileThereIsNoRoom() {
        IntervalSplits x = storage(8, 2);
        for (int key = 1; key <= 8; key++) {
            x.put(key * 10, 1);
        }
        Check.due("splits: room for all is no split", 0, x.split(0));
        Check.due("splits: a put with many", 1, x.put(15, 8));
        Check.layout("splits: many", "1[10] 5[15] | 4[20] | 3[30 40] | 2[50 60 70 80]", x);
        Check.due("splits: interval splits", 4, x.split(0));
        Check.due("splits: area splits", 3, x.split(1));
        IntervalSplits once = withLengths(10, 5, 2, 2, 2, 2, 2);
        once.put(6, 4);
        Check.layout("splits: no more than needed", "1[1 2] 2[3 4 5 6]", once);
        Check.due("splits: one", 1, once.split(0));
    }

    /** "and it is looked for anew". */
    private static void lookedForAnew() {
        IntervalSplits old = storage(10, 5);
        old.put(10, 5);
        old.put(20, 5);
        old.put(15, 5);
        Check.layout("anew: to the old one", "1[10 15] 2[20]", old);
        IntervalSplits fresh = storage(10, 5);
        fresh.put(10, 5);
        fresh.put(20, 5);
        fresh.put(25, 5);
        Check.layout("anew: to the new one", "1[10] 2[20 25]", fresh);
        IntervalSplits own = withLengths(10, 5, 1, 1, 8);
        own.put(4, 3);
        Check.layout("anew: then an interval of its own", "1[1 2] 2[3] 3[4]", own);
        IntervalSplits area = withKeys(3, 10, 20, 30);
        area.put(40, 1);
        Check.layout("anew: behind an area split", "1[10] 2[20] | 3[30] 4[40]", area);
    }

    /** "If the area of that interval has less than WIDTH intervals: an INTERVAL SPLIT". */
    private static void lessThanWidth() {
        IntervalSplits x = withKeys(3, 1, 2, 3);
        Check.due("WIDTH: area splits below it", 0, x.split(1));
        x.put(4, 1);
        Check.layout("WIDTH: at it", "1[1] 2[2] | 3[3] 4[4]", x);
        Check.due("WIDTH: area splits at it", 1, x.split(1));
        x.put(5, 1);
        x.put(0, 1);
        Check.layout("WIDTH: both areas one below it", "6[0] 1[1] 2[2] | 3[3] 4[4] 5[5]", x);
        Check.due("WIDTH: area splits one below it", 1, x.split(1));
        x.put(-1, 1);
        Check.layout("WIDTH: the area of that interval",
            "7[-1] 6[0] 1[1] | 2[2] | 3[3] 4[4] 5[5]", x);
        IntervalSplits many = withLengths(2, 2, 1, 1, 1, 1, 1);
        Check.layout("WIDTH: an interval of two", "1[1] | 2[2] | 3[3] 4[4 5]", many);
        many.put(6, 1);
        Check.layout("WIDTH: the area first, then the interval",
            "1[1] | 2[2] | 3[3] | 4[4] 5[5 6]", many);
    }

    /** "as many as have together at most half of all its lengths". */
    private static void atMostHalfOfItsLengths() {
        IntervalSplits exact = withLengths(10, 5, 2, 3, 5);
        exact.put(9, 1);
        Check.layout("half: exactly", "1[1 2] 2[3 9]", exact);
        IntervalSplits over = withLengths(10, 5, 2, 4, 4);
        over.put(9, 1);
        Check.layout("half: one over", "1[1] 2[2 3 9]", over);
        IntervalSplits oddBelow = withLengths(11, 5, 2, 3, 6);
        oddBelow.put(9, 1);
        Check.layout("half: 5 of 11", "1[1 2] 2[3 9]", oddBelow);
        IntervalSplits oddOver = withLengths(11, 5, 2, 4, 5);
        oddOver.put(9, 1);
        Check.layout("half: 6 of 11", "1[1] 2[2 3 9]", oddOver);
        IntervalSplits ofLengths = withLengths(10, 5, 2, 2, 1, 1);
        ofLengths.put(9, 5);
        Check.layout("half: of its lengths, not of ROOM", "1[1] 2[2 3 4 9]", ofLengths);
        IntervalSplits first = withLengths(10, 5, 1, 8, 1);
        first.put(9, 1);
        Check.layout("half: the first ones, none left out", "1[1] 2[2 3 9]", first);
        IntervalSplits second = withLengths(10, 5, 8, 1, 1, 8);
        Check.layout("half: two intervals", "1[1] 2[2 3 4]", second);
        second.put(5, 1);
        Check.layout("half: of the second one's lengths", "1[1] 2[2 3] 3[4 5]", second);
    }

    /** "(but one at least". */
    private static void oneAtLeastIsKept() {
        IntervalSplits heavy = withLengths(10, 5, 8, 1, 1);
        heavy.put(9, 1);
        Check.layout("one at least", "1[1] 2[2 3 9]", heavy);
        IntervalSplits two = withLengths(10, 5, 9, 1);
        two.put(9, 1);
        Check.layout("one at least of two", "1[1] 2[2 9]", two);
        IntervalSplits odd = withLengths(3, 5, 2, 1);
        odd.put(9, 1);
        Check.layout("one at least, one over half", "1[1] 2[2 9]", odd);
    }

    /** "and not all)". */
    private static void notAllIsKept() {
        IntervalSplits heavy = withLengths(10, 5, 1, 1, 8);
        heavy.put(0, 1);
        Check.layout("not all", "1[0 1 2] 2[3]", heavy);
        IntervalSplits two = withLengths(10, 5, 1, 9);
        two.put(0, 1);
        Check.layout("not all of two", "1[0 1] 2[2]", two);
    }

    /** "If it has one record only: a new interval .. behind it if the key is greater". */
    private static void oneRecordOnlyBehind() {
        IntervalSplits x = withLengths(10, 5, 4);
        x.put(2, 7);
        Check.layout("own: just greater", "1[1] 2[2]", x);
        Check.due("own: the record is there", 7, x.interval(1, 2));
        Check.due("own: the old one keeps its own", 4, x.interval(0, 2));
        IntervalSplits between = withKeys(5, 10, 20);
        between.put(19, 1);
        Check.layout("own: between two", "1[10] 3[19] 2[20]", between);
        IntervalSplits wide = withKeys(2, 10, 20);
        wide.put(15, 1);
        Check.layout("own: behind, after an area split", "1[10] 3[15] | 2[20]", wide);
    }

    /** "else ahead of it, and the record is put there". */
    private static void oneRecordOnlyAhead() {
        IntervalSplits x = withLengths(10, 5, 4);
        x.put(0, 7);
        Check.layout("own: just less", "2[0] 1[1]", x);
        Check.due("own: the record is there", 7, x.interval(0, 2));
        x.put(-1, 4);
        Check.layout("own: ahead again", "3[-1] 2[0] 1[1]", x);
        x.put(-2, 6);
        Check.layout("own: room in the first", "3[-2 -1] 2[0] 1[1]", x);
        IntervalSplits wide = withKeys(2, 10, 20);
        wide.put(5, 1);
        Check.layout("own: ahead, after an area split", "3[5] 1[10] | 2[20]", wide);
    }

    /** "(That is a split, too.)" */
    private static void ownIntervalIsASplit() {
        Check.due("own: none yet", 0, withKeys(5, 10).split(0));
        Check.due("own: behind is a split", 1, withKeys(5, 10, 20).split(0));
        Check.due("own: ahead is a split", 1, withKeys(5, 10, 5).split(0));
        Check.due("own: no area split", 0, withKeys(5, 10, 5).split(1));
    }

    /** "gets its last WIDTH / 2 (whole part) intervals". */
    private static void lastHalfOfWidth() {
        for (int width = 2; width <= 20; width++) {
            IntervalSplits x = storage(1, width);
            for (int key = 1; key <= width; key++) {
                x.put(key * 10, 1);
            }
            x.put(5, 1);
            int moved = width / 2;
            int kept = width - moved;
            for (int i = 0; i <= width; i++) {
                Check.due("WIDTH " + width + ": area of interval " + i, i <= kept ? 0 : 1,
                    x.interval(i, 3));
            }
            Check.due("WIDTH " + width + ": first key that moved", (kept + 1) * 10, x.index(1, 1));
            Check.due("WIDTH " + width + ": areas", 2, x.count(2));
        }
    }

    /** "Else an AREA SPLIT: a new area behind it". */
    private static void newAreaBehindTheOld() {
        IntervalSplits x = withKeys(5, 10, 20, 30, 40, 50);
        Check.layout("area: full", "1[10] 2[20] 3[30] 4[40] 5[50]", x);
        x.put(35, 1);
        Check.layout("area: the record stays in the old one",
            "1[10] 2[20] 3[30] 6[35] | 4[40] 5[50]", x);
        x.put(60, 1);
        x.put(70, 1);
        x.put(80, 1);
        x.put(90, 1);
        Check.layout("area: the last one splits",
            "1[10] 2[20] 3[30] 6[35] | 4[40] 5[50] 7[60] | 8[70] 9[80] 10[90]", x);
        x.put(5, 1);
        x.put(4, 1);
        Check.layout("area: the first one splits, the new one is ahead of the others",
            "12[4] 11[5] 1[10] 2[20] | 3[30] 6[35] | 4[40] 5[50] 7[60] | 8[70] 9[80] 10[90]", x);
        Check.due("area: splits", 3, x.split(1));
    }

    /** "REMOVING a record: an interval that becomes empty goes". */
    private static void removedIntervalGoes() {
        IntervalSplits x = withLengths(10, 5, 5, 5, 5);
        Check.layout("goes: before", "1[1] 2[2 3]", x);
        x.remove(2);
        Check.layout("goes: one record is left", "1[1] 2[3]", x);
        x.remove(1);
        Check.layout("goes: the first of two", "2[3]", x);
        Check.due("goes: one interval", 1, x.count(1));
        IntervalSplits y = withKeys(5, 10, 20, 30, 40);
        y.remove(20);
        Check.layout("goes: a middle one", "1[10] 3[30] 4[40]", y);
        y.remove(40);
        Check.layout("goes: the last one", "1[10] 3[30]", y);
        y.remove(10);
        Check.layout("goes: the first one", "3[30]", y);
        y.put(25, 1);
        Check.layout("goes: a key of the one that went", "5[25] 3[30]", y);
    }

    /** "unless it is the only one". */
    private static void theOnlyIntervalStays() {
        IntervalSplits x = withKeys(2, 10, 20, 30);
        x.remove(20);
        x.remove(10);
        Check.layout("only: one record", "3[30]", x);
        Check.due("only: remove it", 1, x.remove(30));
        Check.layout("only: it stays", "3[]", x);
        int[] counts = {0, 1, 1, 0, 4, 0};
        for (int what = 0; what < counts.length; what++) {
            Check.due("only: count " + what, counts[what], x.count(what));
        }
        x.put(5, 1);
        Check.layout("only: a record comes to it", "3[5]", x);
    }

    /** "an area without intervals goes". */
    private static void areaWithoutIntervalsGoes() {
        IntervalSplits x = withKeys(2, 1, 2, 3, 4, 5);
        Check.layout("area goes: before", "1[1] | 2[2] | 3[3] | 4[4] 5[5]", x);
        x.remove(4);
        Check.layout("area goes: not with one interval left", "1[1] | 2[2] | 3[3] | 5[5]", x);
        Check.due("area goes: four", 4, x.count(2));
        x.remove(2);
        Check.layout("area goes: a middle one", "1[1] | 3[3] | 5[5]", x);
        Check.due("area goes: three", 3, x.count(2));
        Check.due("area goes: those behind come up", 2, x.interval(2, 3));
        x.remove(5);
        Check.layout("area goes: the last one", "1[1] | 3[3]", x);
        x.remove(1);
        Check.layout("area goes: the first one", "3[3]", x);
        Check.due("area goes: one", 1, x.count(2));
        Check.due("area goes: the only one is the first", 0, x.interval(0, 3));
        x.remove(3);
        Check.due("area goes: the only one stays", 1, x.count(2));
        IntervalSplits wide = withKeys(4, 1, 2, 3, 4, 5);
        Check.layout("area goes: wide", "1[1] 2[2] | 3[3] 4[4] 5[5]", wide);
        wide.remove(1);
        wide.remove(2);
        Check.layout("area goes: wide, the first one", "3[3] 4[4] 5[5]", wide);
        wide.put(6, 1);
        Check.layout("area goes: wide, room for one interval", "3[3] 4[4] 5[5] 6[6]", wide);
        Check.due("area goes: wide, no new split", 1, wide.split(1));
    }
}
