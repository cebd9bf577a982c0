/** Promises 33 to 38 beside the machine's own rows and casts: what those throw tells the refusal that is due. */
public final class HostTest {
    private static final Check CHECK = new Check("HostTest");
    private static final int RUNS = 250, SHELVES = 6;

    /** An object is asked no further than this: one call and each element of a row behind it come on top. */
    private static final int CALLS = 512 - 61;
    private static final Class<?>[] KINDS = {ActsTest.Wait.class, ActsTest.Good.class, ActsTest.Bad.class,
        ActsTest.Asking.class, ActsTest.Shared.class, ActsTest.Night.class, ActsTest.Refused.class, ActsTest.Walked.class};

    private long state;
    private final ThumbOut x = new ThumbOut();
    private final Object[] held = new Object[SHELVES];
    private final int run;
    private int calls;

    private HostTest(int run) {
        this.run = run;
        state = 6007L * run + 41;
    }

    public static void main(String[] args) {
        for (int run = 0; run < RUNS; run++) {
            new HostTest(run).goOn();
        }
        CHECK.end();
    }

    private int draw(int n) {
        state = state * 6364136223846793005L + 1442695040888963407L;
        return (int) ((state >>> 33) % n);
    }

    /** A number from one to another; now and then the one below, the one above or one far off. */
    private int near(int from, int to) {
        switch (draw(24)) {
            case 0: return from - 1;
            case 1: return to + 1;
            case 2: return draw(4) > 0 ? to : draw(2) == 0 ? Integer.MAX_VALUE - draw(3) : Integer.MIN_VALUE + draw(3);
            default: return from + draw(to - from + 1);
        }
    }

    private void due(String call, long got, long want) {
        calls++;
        CHECK.due("run " + run + ": " + call, got, want);
    }

    private void goOn() {
        for (int kind = 0; kind < KINDS.length; kind++) {
            due("body(" + kind + ")", x.body(kind), kind);
        }
        // Runs of few shelves and short rows, too, so that rows often meet.
        int shelves = 2 + draw(SHELVES - 1);
        int size = draw(4) == 0 ? 60 : 1 + draw(8);
        int sorts = 1 + draw(5);
        while (calls <= CALLS) {
            int shelf = near(0, shelves - 1);
            call(shelf, draw(2) == 0 ? shelf : near(0, shelves - 1), size, sorts);
        }
    }

    private void call(int shelf, int other, int size, int sorts) {
        int i = near(0, size - 1);
        int j = near(0, size - 1);
        switch (draw(12)) {
            case 0:
                int body = near(-1, KINDS.length - 1);
                due("keep(" + shelf + ", " + body + ")", x.keep(shelf, body), keep(shelf, body));
                break;
            case 1:
            case 2:
                int sort = near(0, sorts - 1);
                int n = near(0, size);
                due("row(" + shelf + ", " + sort + ", " + n + ")", x.row(shelf, sort, n), row(shelf, sort, n));
                for (int at = 0; at < n && n <= 8; at++) {
                    due("put(" + shelf + ", " + at + ", " + (at + 1) + ")", x.put(shelf, at, at + 1), put(shelf, at, at + 1));
                }
                break;
            case 3:
            case 4:
            case 5:
                long v = (long) (draw(1 << 20) - (1 << 19)) * draw(1 << 20) * draw(1 << 20) >> draw(60);
                due("put(" + shelf + ", " + i + ", " + v + ")", x.put(shelf, i, v), put(shelf, i, v));
                break;
            case 6:
            case 7:
            case 8:
                due("element(" + shelf + ", " + i + ")", x.element(shelf, i), element(shelf, i));
                break;
            case 9:
            case 10:
                int many = near(0, 1 + draw(size));
                j = draw(2) == 0 ? near(i - 2, i + 2) : j;
                due("shift(" + shelf + ", " + i + ", " + other + ", " + j + ", " + many + ")",
                    x.shift(shelf, i, other, j, many), shift(shelf, i, other, j, many));
                for (int at = 0; at < size; at++) {
                    due("element(" + other + ", " + at + ")", x.element(other, at), element(other, at));
                }
                break;
            default:
                int kind = near(0, KINDS.length - 1);
                due("taken(" + shelf + ", " + kind + ")", x.taken(shelf, kind), taken(shelf, kind));
        }
    }

    // ---- the same calls by the machine's own means

    private static boolean isShelf(int shelf) {
        return shelf >= 0 && shelf < SHELVES;
    }

    private int keep(int shelf, int body) {
        if (!isShelf(shelf) || body < -1 || body >= KINDS.length) {
            return ThumbOut.BAD;
        }
        held[shelf] = body == -1 ? null : ActsTest.made(body);
        return 1;
    }

    private int row(int shelf, int sort, int n) {
        if (!isShelf(shelf) || sort < 0 || sort > 4 || n > 60) {
            return ThumbOut.BAD;
        }
        try {
            switch (sort) {
                case 0: held[shelf] = new byte[n]; break;
                case 1: held[shelf] = new short[n]; break;
                case 2: held[shelf] = new int[n]; break;
                case 3: held[shelf] = new long[n]; break;
                default: held[shelf] = new boolean[n];
            }
            return 1;
        } catch (NegativeArraySizeException e) {
            return -14;
        }
    }

    private int put(int shelf, int i, long v) {
        if (!isShelf(shelf)) {
            return ThumbOut.BAD;
        }
        Object row = held[shelf];
        if (row == null) {
            return -11;
        }
        try {
            if (row instanceof byte[]) {
                ((byte[]) row)[i] = (byte) v;
            } else if (row instanceof short[]) {
                ((short[]) row)[i] = (short) v;
            } else if (row instanceof int[]) {
                ((int[]) row)[i] = (int) v;
            } else if (row instanceof boolean[]) {
                ((boolean[]) row)[i] = v != 0;
            } else {
                ((long[]) row)[i] = v;
            }
            return 1;
        } catch (ClassCastException e) {
            return -12;
        } catch (ArrayIndexOutOfBoundsException e) {
            return -13;
        }
    }

    private long element(int shelf, int i) {
        try {
            Object row = held[shelf];
            return row instanceof boolean[] ? ((boolean[]) row)[i] ? 1 : 0
                : row instanceof long[] ? ((long[]) row)[i] : java.lang.reflect.Array.getInt(row, i);
        } catch (NullPointerException | IllegalArgumentException | ArrayIndexOutOfBoundsException e) {
            return Long.MIN_VALUE;
        }
    }

    private int shift(int shelf, int i, int other, int j, int n) {
        if (!isShelf(shelf) || !isShelf(other)) {
            return ThumbOut.BAD;
        }
        try {
            System.arraycopy(held[shelf], i, held[other], j, n);
            return n;
        } catch (NullPointerException e) {
            return -11;
        } catch (ArrayStoreException e) {
            return -12;
        } catch (IndexOutOfBoundsException e) {
            return -13;
        }
    }

    private int taken(int shelf, int kind) {
        if (!isShelf(shelf) || kind < 0 || kind >= KINDS.length) {
            return ThumbOut.BAD;
        }
        if (held[shelf] == null) {
            return -11;
        }
        try {
            Object as = KINDS[kind].cast(held[shelf]);
            int own = 0;
            while (KINDS[own] != as.getClass()) {
                own++;
            }
            return own;
        } catch (ClassCastException e) {
            return -12;
        }
    }
}
