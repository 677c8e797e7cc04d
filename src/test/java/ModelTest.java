/** Long runs of calls, always the same ones, answered by the class and by the plain model. */
public final class ModelTest {
    private static final int RUNS = 1500;
    private static final int CALLS = 512;
    private static final int[] EDGES = {Integer.MIN_VALUE, -1, 0, 1, 2, 3, 4, 5, 6, 19, 20, 21, 99,
        100, 101, 599, 600, 601, 999, 1000, 1001, Integer.MAX_VALUE};

    private long seed;
    private String run;
    private IntervalSplits x;
    private PlainModel model;
    private int keyRange;
    private int lengthRange;

    private ModelTest(int number) {
        seed = number * 7919L + 17;
        int room = 1 + pick(pick(4) == 0 ? 1000 : 14);
        int width = 2 + pick(pick(3) == 0 ? 19 : 3);
        int down = 1 + pick(6);
        int up = 1 + pick(down);
        if (pick(4) == 0) {
            room = pick(2) == 0 ? edge() : room;
            width = edge();
            up = edge();
            down = edge();
        }
        keyRange = 10 + pick(pick(2) == 0 ? 30 : 600);
        int heldRoom = Math.max(1, Math.min(1000, room));
        lengthRange = pick(2) == 0 ? heldRoom : Math.max(1, heldRoom / 4);
        run = "run " + number + " (" + room + ", " + width + ", " + up + ", " + down + ")";
        x = new IntervalSplits(room, width, up, down);
        model = new PlainModel(room, width, up, down);
    }

    public static void main(String[] args) {
        for (int number = 0; number < RUNS; number++) {
            new ModelTest(number).play();
        }
        Check.end();
    }

    private int pick(int bound) {
        seed = seed * 6364136223846793005L + 1442695040888963407L;
        return (int) ((seed >>> 33) % bound);
    }

    private int edge() {
        return EDGES[pick(EDGES.length)];
    }

    private long key() {
        int kind = pick(60);
        if (kind == 0) {
            return Long.MIN_VALUE;
        }
        if (kind == 1) {
            return Long.MAX_VALUE;
        }
        long key = pick(keyRange) - keyRange / 2;
        return kind < 10 ? key << 31 : key;
    }

    private int length() {
        return pick(40) == 0 ? edge() : 1 + pick(lengthRange);
    }

    private int place() {
        return pick(10) == 0 ? edge() : pick(model.count(1) + 1);
    }

    private void play() {
        int removing = 5 + pick(25);
        for (int call = 0; call < CALLS; call++) {
            int kind = pick(100);
            String at = run + ", call " + call + ": ";
            if (kind < removing) {
                long key = pick(2) == 0 ? key() : model.order(pick(model.count(0) + 1));
                Check.due(at + "remove(" + key + ")", model.remove(key), x.remove(key));
            } else if (kind < 60) {
                long key = key();
                int length = length();
                Check.due(at + "put(" + key + ", " + length + ")",
                    model.put(key, length), x.put(key, length));
            } else if (kind < 68) {
                int write = pick(20) == 0 ? edge() : pick(5);
                Check.due(at + "cut(" + write + ")", model.cut(write), x.cut(write));
            } else if (kind < 74) {
                Check.due(at + "open()", model.open(), x.open());
            } else if (kind == 74 && pick(3) == 0) {
                Check.due(at + "reorganise()", model.reorganise(), x.reorganise());
            } else {
                ask(at);
            }
        }
    }

    private void ask(String at) {
        int what = pick(20) == 0 ? edge() : pick(8) - 1;
        int place = place();
        switch (pick(8)) {
            case 0:
                long sought = key();
                Check.due(at + "find(" + sought + ")", model.find(sought), x.find(sought));
                break;
            case 1:
                long below = key();
                Check.due(at + "next(" + below + ")", model.next(below), x.next(below));
                break;
            case 2:
                Check.due(at + "interval(" + place + ", " + what + ")",
                    model.interval(place, what), x.interval(place, what));
                break;
            case 3:
                Check.due(at + "split(" + what + ")", model.split(what), x.split(what));
                break;
            case 4:
                askIndex(at, pick(20) == 0 ? edge() : pick(3), place);
                break;
            case 5:
                Check.due(at + "verify()", 0, x.verify());
                break;
            case 6:
                int i = pick(10) == 0 ? edge() : pick(model.count(0) + 1);
                Check.due(at + "order(" + i + ")", model.order(i), x.order(i));
                break;
            default:
                Check.due(at + "count(" + what + ")", model.count(what), x.count(what));
                break;
        }
    }

    private void askIndex(String at, int level, int i) {
        long want = model.index(level, i);
        long got;
        try {
            got = x.index(level, i);
        } catch (ArrayIndexOutOfBoundsException e) {
            Check.holds(at + "index throws by its own statement", Check.isThrownByIndex(e));
            got = Long.MIN_VALUE;
        }
        Check.due(at + "index(" + level + ", " + i + ")", want, got);
    }
}
