/** Promises 4, 25, 33 to 39: shelves, roads and waits told by rows, and what is counted. */
public final class ShelvesTest {
    private static final Check CHECK = new Check("ShelvesTest");
    private static final int LOW = Integer.MIN_VALUE;
    private static final int HIGH = Integer.MAX_VALUE;

    public static void main(String[] args) {
        roads();
        roadsEnd();
        roadsRefused();
        book();
        bookRefused();
        keep();
        row();
        put();
        element();
        shift();
        shiftRefused();
        taken();
        count();
        CHECK.end();
    }

    private static void due(String call, long got, long want) {
        CHECK.due(call, got, want);
    }

    private static ThumbOut places(int n) {
        ThumbOut x = new ThumbOut();
        for (int i = 0; i < n; i++) {
            x.place(50);
        }
        return x;
    }

    private static void roads() {
        ThumbOut x = places(3);
        Check.row(x, 2, 1, 99, 1, 30, 45, 10, 12, 60, 300, 99, 20, 1, 1, 0, 1, 5, 5, 5);
        due("4: two of them", x.roads(2, 1, 2), 2);
        due("4: ab", x.of(1, 10), 12);
        due("4: flow", x.of(1, 11), 60);
        due("4: long", x.of(1, 12), 300);
        due("4: danger", x.of(1, 13), 99);
        due("4: of the first", x.of(0, 12), 45);
        due("4: no more of them", x.count(1), 2);
        due("4: all there are", x.roads(2, 9, 15), 2);
        due("4: the third's ab", x.of(2, 10), 20);
        due("4: the last's ab", x.of(3, 10), 1);
        due("4: count(1)", x.count(1), 4);
        due("4: no change to undo", x.count(4), 0);
    }

    private static void roadsEnd() {
        ThumbOut x = places(2);
        long[][] wrong = {{2, 1, 1, 0}, {11, 1, 1, 0}, {-1, 1, 1, 0}, {1, 0, 1, 0}, {1, 61, 1, 0}, {1, 1, 0, 0},
            {1, 1, 301, 0}, {1, 1, 1, -1}, {1, 1, 1, 100}, {101, 1, 1, 0}, {-10, 1, 1, 0}, {1, -1, 1, 0}, {1, 1, -1, 0}};
        int came = 0;
        for (long[] w : wrong) {
            Check.row(x, 0, 1, 10, 1, 1, 1, w[0], w[1], w[2], w[3], 1, 1, 1, 1);
            due("4: up to the one that may not be", x.roads(0, 0, 3), 1);
            came++;
            due("4: those ahead came", x.count(1), came);
        }
        due("4: within a four", x.roads(0, 9, 3), 0);
        due("4: the last four", x.roads(0, 8, 3), 1);
        due("4: at the end", x.roads(0, 12, 3), 0);
        due("4: behind the end", x.roads(0, HIGH, 15), 0);
        due("4: below 0", x.roads(0, -1, 3), 0);
        due("4: below 0", x.roads(0, -4, 3), 0);
        due("4: below 0", x.roads(0, LOW, 3), 0);
        x.row(1, 1, 0);
        due("4: an empty row", x.roads(1, 0, 1), 0);
        Check.row(x, 1, 1, 9, 1, 1, 1, 1, 1, 1, 1, 2, 1, 1, 1);
        due("4: a four that is cut", x.roads(1, 1, 3), 2);
        due("4: full", x.roads(1, 1, 3), 0);
        due("4: full", x.count(1), 16);
        ThumbOut y = places(2);
        for (int i = 0; i < 15; i++) {
            y.road(1, 1, 100);
        }
        Check.row(y, 1, 1, 1, 1, 1, 1, 1, 1, 1, 2);
        due("4: becoming full", y.roads(1, 0, 2), 1);
        due("4: the 16th", y.of(15, 13), 1);
    }

    private static void roadsRefused() {
        ThumbOut x = places(2);
        x.body(0);
        x.keep(1, 0);
        Check.row(x, 2, 2, 1, 1, 1, 1);
        Check.row(x, 3, 1, 1, 1, 1, 1);
        due("4: missing", x.roads(0, 0, 1), 0);
        due("4: missing, below 0", x.roads(0, -1, 1), 0);
        due("4: a body", x.roads(1, 0, 1), -12);
        due("4: ints", x.roads(2, 0, 1), -12);
        due("4: ints, below 0", x.roads(2, -1, 1), -12);
        int[][] bad = {{-1, 0, 1}, {6, 0, 1}, {3, 0, 0}, {3, 0, 16}, {3, 0, -1}, {HIGH, 0, 1}, {3, 0, LOW}, {0, 0, 16},
            {2, 0, 0}};
        for (int[] b : bad) {
            due("4: roads(" + b[0] + ", " + b[1] + ", " + b[2] + ")", x.roads(b[0], b[1], b[2]), ThumbOut.BAD);
        }
        due("4: none came", x.count(1), 0);
        due("4: one", x.roads(3, 0, 15), 1);
    }

    /** Waits from minute 1 on with all cars stopping: 19, 59, 59 and none. */
    private static ThumbOut waiting() {
        ThumbOut x = places(4);
        x.road(1, 2, 1030);
        x.road(2, 3, 500);
        x.road(13, 1, 10060);
        x.road(23, 1, 20010);
        Check.law(x, "(h>5)*1000");
        Check.law(x, "1000");
        Check.law(x, "1000+d");
        return x;
    }

    private static void book(String call, ThumbOut x, int law, int off) {
        due("25: " + call + ": law", x.book(0, 1, 0), law);
        due("25: " + call + ": off", x.book(0, 1, 1), off);
    }

    private static void book() {
        ThumbOut x = waiting();
        Check.row(x, 0, 2, 19, 59, 59, 1440);
        book("just so", x, 1, 0);
        Check.row(x, 0, 2, 20, 50, 60, 1439);
        book("off to both sides", x, 1, 1 + 9 + 1 + 1);
        Check.row(x, 0, 2, -5, 59, 59, HIGH);
        book("held", x, 1, 19);
        Check.row(x, 0, 2, LOW, 59, 59, 1441);
        book("held", x, 1, 19);
        Check.row(x, 0, 2, 359, 359, 359, 1440, -7, 3);
        book("a longer row", x, 0, 0);
        x.set(2, 2);
        Check.row(x, 0, 2, wait(x, 0), wait(x, 1), wait(x, 2), wait(x, 3));
        book("none of them", x, -1, 0);
        x.force(1);
        book("whatever is in force", x, -1, 0);
        due("25: in force still", x.force(1), 1);
        Check.law(x, "30");
        book("alike: none first", x, -1, 0);
    }

    /** The wait without a law. */
    private static int wait(ThumbOut x, int place) {
        int was = x.force(-1);
        int wait = x.waits(place, 1);
        x.force(was);
        return wait == ThumbOut.NOT ? 1440 : wait;
    }

    private static void bookRefused() {
        ThumbOut x = waiting();
        x.body(0);
        x.keep(1, 0);
        x.row(2, 2, 3);
        x.row(3, 3, 4);
        x.row(4, 2, 4);
        due("25: nothing", x.book(0, 0, 0), -11);
        due("25: a body", x.book(1, 0, 0), -12);
        due("25: a shorter row", x.book(2, 0, 1), -13);
        due("25: longs", x.book(3, 0, 1), -12);
        due("25: enough", x.book(4, 1439, 1), 1440 + 1440 + 1440 + 1440);
        int[][] bad = {{-1, 0, 0}, {6, 0, 0}, {0, -1, 0}, {0, 1440, 0}, {0, 0, 2}, {1, 0, -1}, {HIGH, 0, 0}, {2, LOW, 0}};
        for (int[] b : bad) {
            due("25: book(" + b[0] + ", " + b[1] + ", " + b[2] + ")", x.book(b[0], b[1], b[2]), ThumbOut.VOID);
        }
    }

    private static void keep() {
        ThumbOut x = new ThumbOut();
        due("33: no body", x.keep(0, 0), ThumbOut.BAD);
        x.body(4);
        due("33: a body", x.keep(0, 0), 1);
        due("33: it is there", x.taken(0, 4), 4);
        due("33: on another shelf too", x.keep(5, 0), 1);
        due("33: it is there", x.taken(5, 0), 4);
        int[][] bad = {{0, 1}, {0, -2}, {-1, 0}, {6, 0}, {6, -1}, {HIGH, 0}, {0, LOW}, {0, HIGH}};
        for (int[] b : bad) {
            due("33: keep(" + b[0] + ", " + b[1] + ")", x.keep(b[0], b[1]), ThumbOut.BAD);
        }
        due("33: BAD changes nothing", x.taken(0, 4), 4);
        due("33: nothing", x.keep(0, -1), 1);
        due("33: nothing is there", x.taken(0, 4), -11);
        due("33: nothing", x.put(0, 0, 1), -11);
        x.row(0, 0, 1);
        due("33: for a row", x.keep(0, 0), 1);
        due("33: no row", x.put(0, 0, 1), -12);
    }

    private static void row() {
        ThumbOut x = new ThumbOut();
        for (int sort = 0; sort <= 4; sort++) {
            due("34: row(0, " + sort + ", 60)", x.row(0, sort, 60), 1);
            due("34: element 59", x.put(0, 59, 1), 1);
            due("34: no element 60", x.put(0, 60, 1), -13);
            due("34: 0 at first", x.element(0, 58), 0);
        }
        due("34: anew", x.row(0, 4, 60), 1);
        due("34: 0 again", x.element(0, 59), 0);
        due("34: empty", x.row(0, 4, 0), 1);
        due("34: no element 0", x.put(0, 0, 1), -13);
        x.row(1, 2, 3);
        x.put(1, 2, 5);
        int[][] bad = {{-1, 0, 1}, {6, 0, 1}, {1, -1, 1}, {1, 5, 1}, {1, 0, 61}, {1, 0, HIGH}, {HIGH, 0, 1}, {1, LOW, 1},
            {6, 0, -1}, {1, 5, -1}};
        for (int[] b : bad) {
            due("34: row(" + b[0] + ", " + b[1] + ", " + b[2] + ")", x.row(b[0], b[1], b[2]), ThumbOut.BAD);
        }
        due("34: below 0", x.row(1, 0, -1), -14);
        due("34: below 0", x.row(1, 0, LOW), -14);
        due("34: refused changes nothing", x.element(1, 2), 5);
    }

    private static void put() {
        ThumbOut x = new ThumbOut();
        x.body(0);
        x.keep(1, 0);
        x.row(2, 3, 4);
        due("35: nothing", x.put(0, 0, 1), -11);
        due("35: a body", x.put(1, 0, 1), -12);
        due("35: below 0", x.put(2, -1, 1), -13);
        due("35: no such place", x.put(2, 4, 1), -13);
        due("35: no such place", x.put(2, HIGH, 1), -13);
        due("35: no such place", x.put(2, LOW, 1), -13);
        int[] bad = {-1, 6, LOW, HIGH};
        for (int shelf : bad) {
            due("35: put(" + shelf + ", 0, 1)", x.put(shelf, 0, 1), ThumbOut.BAD);
        }
        long[] values = {0, 1, -1, 127, 128, 255, 256, -129, 32767, 32768, 65536, -32769, 0x7fffffffL, 0x80000000L,
            0x100000000L, 0x1234567890abcdefL, Long.MAX_VALUE, Long.MIN_VALUE + 1};
        for (long v : values) {
            for (int sort = 0; sort <= 4; sort++) {
                long kept = sort == 0 ? (byte) v : sort == 1 ? (short) v : sort == 2 ? (int) v : sort == 3 ? v
                    : v == 0 ? 0 : 1;
                x.row(2, sort, 3);
                due("35: put(2, 1, " + v + ")", x.put(2, 1, v), 1);
                due("35: sort " + sort + " keeps of " + v, x.element(2, 1), kept);
                due("35: others stay", x.element(2, 0) + x.element(2, 2), 0);
            }
        }
    }

    private static void element() {
        ThumbOut x = new ThumbOut();
        x.body(0);
        x.keep(1, 0);
        Check.row(x, 2, 3, 7, Long.MAX_VALUE, Long.MIN_VALUE);
        due("36: element", x.element(2, 0), 7);
        due("36: element", x.element(2, 1), Long.MAX_VALUE);
        due("36: element", x.element(2, 2), Long.MIN_VALUE);
        int[][] none = {{0, 0}, {1, 0}, {2, -1}, {2, 3}, {2, LOW}, {2, HIGH}, {-1, 0}, {6, 0}, {LOW, 0}, {HIGH, 0}};
        for (int[] n : none) {
            due("36: element(" + n[0] + ", " + n[1] + ")", x.element(n[0], n[1]), Long.MIN_VALUE);
        }
    }

    private static void holds(String call, ThumbOut x, int shelf, long... elements) {
        for (int i = 0; i < elements.length; i++) {
            due(call + ": element " + i, x.element(shelf, i), elements[i]);
        }
    }

    private static void shift() {
        ThumbOut x = new ThumbOut();
        Check.row(x, 0, 2, 1, 2, 3, 4, 5);
        Check.row(x, 1, 2, 10, 20, 30);
        due("37: to another", x.shift(0, 3, 1, 0, 2), 2);
        holds("37: to another", x, 1, 4, 5, 30);
        holds("37: from there", x, 0, 1, 2, 3, 4, 5);
        due("37: upward", x.shift(0, 0, 0, 1, 4), 4);
        holds("37: upward", x, 0, 1, 1, 2, 3, 4);
        due("37: downward", x.shift(0, 2, 0, 1, 3), 3);
        holds("37: downward", x, 0, 1, 2, 3, 4, 4);
        due("37: none", x.shift(0, 2, 1, 2, 0), 0);
        due("37: none at the end", x.shift(0, 5, 1, 3, 0), 0);
        due("37: all", x.shift(1, 0, 0, 2, 3), 3);
        holds("37: all", x, 0, 1, 2, 4, 5, 30);
        x.shift(0, 0, 0, 0, 5);
        holds("37: onto itself", x, 0, 1, 2, 4, 5, 30);
    }

    private static void shiftRefused() {
        ThumbOut x = new ThumbOut();
        x.body(0);
        x.keep(1, 0);
        x.row(2, 2, 3);
        x.row(3, 3, 3);
        Check.row(x, 4, 2, 1, 2, 3, 4, 5);
        int[][] bad = {{-1, 0, 2, 0, 1}, {6, 0, 2, 0, 1}, {2, 0, -1, 0, 1}, {2, 0, 6, 0, 1}, {HIGH, 0, 2, 0, 1},
            {0, 0, 6, 0, -1}, {2, 0, LOW, 0, 1}};
        for (int[] b : bad) {
            due("37: no such shelf", x.shift(b[0], b[1], b[2], b[3], b[4]), ThumbOut.BAD);
        }
        due("37: nothing", x.shift(0, 0, 2, 0, 1), -11);
        due("37: nothing there", x.shift(2, 0, 0, 0, 1), -11);
        due("37: nothing ahead of a body", x.shift(1, 0, 0, 0, 1), -11);
        due("37: nothing twice", x.shift(0, 0, 0, 0, -1), -11);
        due("37: a body", x.shift(1, 0, 2, 0, 1), -12);
        due("37: to a body", x.shift(2, 0, 1, 0, 1), -12);
        due("37: two bodies", x.shift(1, 0, 1, 0, 0), -12);
        due("37: unlike sorts", x.shift(2, 0, 3, 0, 1), -12);
        due("37: unlike sorts ahead of places", x.shift(2, 9, 3, -1, -1), -12);
        int[][] away = {{-1, 0, 1}, {0, -1, 1}, {0, 0, -1}, {3, 0, 1}, {0, 5, 1}, {2, 0, 2}, {0, 4, 2}, {4, 0, 0},
            {0, 6, 0}, {0, 0, 4}, {0, 0, HIGH}, {HIGH, 0, 1}, {0, HIGH, 1}, {HIGH, HIGH, HIGH}, {0, 0, LOW}, {LOW, 0, 1},
            {1, 0, HIGH}, {-1, 0, 0}, {0, -1, 0}};
        for (int[] a : away) {
            due("37: shift(2, " + a[0] + ", 4, " + a[1] + ", " + a[2] + ")", x.shift(2, a[0], 4, a[1], a[2]), -13);
        }
        holds("37: refused changes nothing", x, 4, 1, 2, 3, 4, 5);
    }

    private static void taken() {
        ThumbOut x = new ThumbOut();
        int[] above = {-1, 0, 0, 1, 0, 2, 4, 3};
        x.row(1, 3, 2);
        for (int kind = 0; kind < 8; kind++) {
            x.body(kind);
            x.keep(0, kind);
            for (int k = 0; k < 8; k++) {
                boolean under = false;
                for (int at = kind; at >= 0; at = above[at]) {
                    under |= at == k;
                }
                due("38: kind " + kind + " for " + k, x.taken(0, k), under ? kind : -12);
                due("38: a row", x.taken(1, k), -12);
                due("38: nothing", x.taken(2, k), -11);
            }
        }
        int[][] bad = {{0, -1}, {0, 8}, {-1, 0}, {6, 0}, {2, 8}, {HIGH, 0}, {0, LOW}};
        for (int[] b : bad) {
            due("38: taken(" + b[0] + ", " + b[1] + ")", x.taken(b[0], b[1]), ThumbOut.BAD);
        }
    }

    private static void count() {
        ThumbOut x = places(3);
        x.road(1, 1, 100);
        x.road(12, 1, 100);
        Check.law(x, "1");
        Check.feed(x, "r+r+");
        for (int i = 0; i < 5; i++) {
            x.mend(0, 0, i);
        }
        x.body(0);
        x.body(1);
        x.body(2);
        x.body(3);
        x.body(4);
        x.body(5);
        x.act(0, 1, 0);
        int[] counts = {3, 2, 1, 4, 5, 6, 2};
        for (int what = 0; what < counts.length; what++) {
            due("39: count(" + what + ")", x.count(what), counts[what]);
        }
        int[] bad = {-1, 7, LOW, HIGH};
        for (int what : bad) {
            due("39: count(" + what + ")", x.count(what), ThumbOut.BAD);
        }
    }
}
