/** Compares answers with what is due and ends the test with exit code 1 if one was wrong. */
final class Check {
    private static final int SHOWN = 50;
    private static int wrong = 0;

    private Check() {
    }

    static void due(String what, long want, long got) {
        if (got != want) {
            tell(what + " answered " + got + ", due is " + want);
        }
    }

    static void holds(String what, boolean fact) {
        if (!fact) {
            tell(what + " does not hold");
        }
    }

    /** The intervals, one text: number[key key ..] for each, areas parted by " | ". */
    static void layout(String what, String want, IntervalSplits x) {
        sameText(what + ": layout", want, layoutOf(x));
    }

    static void same(String what, String before, IntervalSplits x) {
        sameText(what + ": state", before, stateOf(x));
    }

    static void sameText(String what, String want, String got) {
        if (!got.equals(want)) {
            tell(what + " is " + got + ", due is " + want);
        }
    }

    static String layoutOf(IntervalSplits x) {
        StringBuilder text = new StringBuilder();
        int position = 0;
        for (int i = 0; i < x.count(1); i++) {
            if (i > 0) {
                text.append(x.interval(i, 3) == x.interval(i - 1, 3) ? " " : " | ");
            }
            text.append(x.interval(i, 0)).append('[');
            for (int k = 0; k < x.interval(i, 1); k++) {
                text.append(k > 0 ? " " : "").append(x.order(position++));
            }
            text.append(']');
        }
        return text.toString();
    }

    /** All that can be asked, but count(3) and count(4): those two a cut changes at once. */
    static String stateOf(IntervalSplits x) {
        StringBuilder text = new StringBuilder(layoutOf(x));
        text.append(", records");
        for (int i = 0; i < x.count(0); i++) {
            long key = x.order(i);
            text.append(' ').append(key).append(':').append(x.find(key)).append(',').append(x.next(key));
        }
        text.append(", lengths");
        for (int i = 0; i < x.count(1); i++) {
            text.append(' ').append(x.interval(i, 2)).append(':').append(x.index(0, i));
        }
        text.append(", areas");
        for (int i = 0; i < x.count(2); i++) {
            text.append(' ').append(x.index(1, i));
        }
        text.append(", splits");
        for (int what = 0; what < 4; what++) {
            text.append(' ').append(x.split(what));
        }
        text.append(", all lengths ").append(x.count(5)).append(", broken ").append(x.verify());
        return text.toString();
    }

    /** The rules that verify() speaks of and the one of empty intervals, looked at from outside. */
    static void rules(String what, IntervalSplits x, int room, int width) {
        for (int i = 1; i < x.count(0); i++) {
            holds(what + ": order of keys " + (i - 1) + " and " + i, x.order(i - 1) < x.order(i));
        }
        int inArea = 0;
        for (int i = 0; i < x.count(1); i++) {
            inArea = i > 0 && x.interval(i, 3) == x.interval(i - 1, 3) ? inArea + 1 : 1;
            holds(what + ": room of interval " + i, x.interval(i, 2) <= room);
            holds(what + ": width of its area at interval " + i, inArea <= width);
            holds(what + ": empty interval " + i, x.interval(i, 1) > 0 || x.count(1) == 1);
        }
    }

    static void indexThrows(String what, IntervalSplits x, int level, int i) {
        try {
            int got = x.index(level, i);
            tell(what + " answered " + got + ", due is an exception");
        } catch (RuntimeException e) {
            if (e.getClass() != ArrayIndexOutOfBoundsException.class || !isThrownByIndex(e)) {
                tell(what + " threw " + e + " at " + e.getStackTrace()[0]);
            }
        }
    }

    /** The machine's own exceptions tell the index or the copy; a throw statement need not. */
    static boolean isThrownByIndex(RuntimeException e) {
        String text = String.valueOf(e.getMessage());
        return e.getStackTrace()[0].getMethodName().equals("index")
            && !text.startsWith("Index ") && !text.startsWith("arraycopy");
    }

    static void end() {
        System.out.println(wrong == 0 ? "all answers are as due" : wrong + " answers are not as due");
        if (wrong != 0) {
            System.exit(1);
        }
    }

    private static void tell(String text) {
        wrong++;
        if (wrong <= SHOWN) {
            System.out.println(text);
        }
    }
}
