/** Compares answers with what is due and ends the test with exit code 1 if one was wrong. */
final class Check {
    private static int wrong = 0;

    private Check() {
    }

    static void due(String what, long want, long got) {
        if (got != want) {
            wrong++;
            if (wrong <= 50) {
                System.out.println(what + " answered " + got + ", due is " + want);
            }
        }
    }

    /** The intervals, one text: number[key key ..] for each, areas parted by " | ". */
    static void layout(String what, String want, IntervalSplits x) {
        String got = layoutOf(x);
        if (!got.equals(want)) {
            wrong++;
            System.out.println(what + ": layout is " + got + ", due is " + want);
        }
    }

    static String layoutOf(IntervalSplits x) {
        StringBuilder text = new StringBuilder();
        int position = 0;
        for (int i = 0; i < x.count(1); i++) {
            if (i > 0) {
                text.append(x.interval(i, 3) == x.interval(i - 1, 3) ? " " : " | ");
            }
            text.append(x.interval(i, 0)).append('[');
            for (int k = 0; k < x.interval(i, 1); k++) {
                text.append(k > 0 ? " " : "").append(x.order(position++));
            }
            text.append(']');
        }
        return text.toString();
    }

    static void indexThrows(String what, IntervalSplits x, int level, int i) {
        try {
            int got = x.index(level, i);
            wrong++;
            System.out.println(what + " answered " + got + ", due is an exception");
        } catch (ArrayIndexOutOfBoundsException e) {
            if (e.getClass() != ArrayIndexOutOfBoundsException.class) {
                wrong++;
                System.out.println(what + " threw " + e.getClass());
            }
        }
    }

    static void end() {
        System.out.println(wrong == 0 ? "all answers are as due" : wrong + " answers are not as due");
        if (wrong != 0) {
            System.exit(1);
        }
    }
}
