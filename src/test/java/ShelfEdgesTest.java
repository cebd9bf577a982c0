/** Each sentence on bodies, acts, shelves and rows that names an edge: promises 4, 30 to 39. */
public final class ShelfEdgesTest {
    private static final Check CHECK = new Check("ShelfEdgesTest");
    private static final int BAD = ThumbOut.BAD;
    private static final int FULL = ThumbOut.FULL;
    private static final int LOW = Integer.MIN_VALUE;
    private static final int HIGH = Integer.MAX_VALUE;
    private static final long NONE = Long.MIN_VALUE;

    /** No shelf has these numbers. */
    private static final int[] NO_SHELVES = {-1, -2, 6, 7, 60, LOW, HIGH};

    public static void main(String[] args) {
        roadsHowMany();
        roadsFromPlaceOn();
        roadsBelowPlaceZero();
        roadsOfAMissingRow();
        roadsUntilTheRowEnds();
        roadsUntilOneMayNotBe();
        roadsUntilFull();
        roadsOfShorts();
        roadsBad();
        bodiesAsTheyCome();
        bodyBad();
        actsOfIntsThatWrap();
        actsByTheirNumbers();
        actOfNone();
        traceAsTheyBegan();
        traceBad();
        keepNothing();
        keepBad();
        rowSizes();
        rowSorts();
        rowOfZeros();
        rowRefused();
        putLowestBits();
        putBooleans();
        putRefused();
        elementOfLeast();
        elementRefused();
        shiftAsTheyWere();
        shiftAll();
        shiftOfNone();
        shiftRefused();
        shiftPlaces();
        takenKinds();
        takenRefused();
        countBad();
        countOfThoseThatRan();
        CHECK.end();
    }

    private static void due(String call, long got, long want) {
        CHECK.due(call, got, want);
    }

    private static void road(String call, ThumbOut x, int road, int ab, int flow, int minutes, int danger) {
        due("4: " + call + ", ab", x.of(road, 10), ab);
        due("4: " + call + ", flow", x.of(road, 11), flow);
        due("4: " + call + ", long", x.of(road, 12), minutes);
        due("4: " + call + ", danger", x.of(road, 13), danger);
    }

    /** Two places, and on shelf 0 a row of shorts with some fours of roads. */
    private static ThumbOut fours(int n) {
        ThumbOut x = Check.places(2);
        x.row(0, 1, 4 * n);
        for (int i = 0; i < n; i++) {
            x.put(0, 4 * i, 1);
            x.put(0, 4 * i + 1, i + 1);
            x.put(0, 4 * i + 2, 300 - i);
            x.put(0, 4 * i + 3, 99 - i);
        }
        return x;
    }

    /** "n (1 .. 15) of them: how many came" */
    private static void roadsHowMany() {
        for (int n = 1; n <= 15; n++) {
            ThumbOut x = fours(15);
            due("4: n " + n, x.roads(0, 0, n), n);
            due("4: count(1)", x.count(1), n);
            road("the last of " + n, x, n - 1, 1, n, 301 - n, 100 - n);
        }
        int[] bad = {0, -1, 16, 17, LOW, HIGH};
        for (int n : bad) {
            ThumbOut x = fours(15);
            due("4: n " + n, x.roads(0, 0, n), BAD);
            due("4: none came", x.count(1), 0);
        }
    }

    /** "from place i on: by fours" */
    private static void roadsFromPlaceOn() {
        for (int shift = 0; shift < 8; shift++) {
            ThumbOut x = Check.places(3);
            x.row(5, 1, shift + 8);
            long[] two = {12, 60, 300, 99, 20, 1, 1, 0};
            for (int i = 0; i < 8; i++) {
                x.put(5, shift + i, two[i]);
            }
            due("4: from place " + shift, x.roads(5, shift, 15), 2);
            road("the first", x, 0, 12, 60, 300, 99);
            road("the second", x, 1, 20, 1, 1, 0);
        }
    }

    /** "(0 with i below 0)" */
    private static void roadsBelowPlaceZero() {
        int[] below = {-1, -3, -4, -8, -60, LOW, LOW + 4};
        for (int i : below) {
            ThumbOut x = fours(3);
            due("4: from place " + i, x.roads(0, i, 2), 0);
            due("4: none came", x.count(1), 0);
            due("4: of a row that is missing", x.roads(1, i, 2), 0);
        }
    }

    /** "it ends where the row is missing"; "a SHELF that holds nothing is missing" */
    private static void roadsOfAMissingRow() {
        ThumbOut x = fours(1);
        for (int shelf = 1; shelf <= 5; shelf++) {
            due("4: nothing at first", x.roads(shelf, 0, 15), 0);
        }
        x.keep(0, -1);
        due("4: nothing any more", x.roads(0, 0, 15), 0);
        due("4: nothing from place 60 on", x.roads(0, 60, 1), 0);
        due("4: none came", x.count(1), 0);
    }

    /** "ends (within a four, too)" */
    private static void roadsUntilTheRowEnds() {
        for (int size = 0; size <= 13; size++) {
            int[] from = {0, 1, 2, 3, 4, 5, size - 4, size - 3, size, size + 1, 60, HIGH - 4, HIGH - 3, HIGH};
            for (int i : from) {
                ThumbOut x = Check.places(2);
                Check.row(x, 0, 1, ones(size));
                int fours = i < 0 || i > size ? 0 : (size - i) / 4;
                due("4: of " + size + " from " + i, x.roads(0, i, 4), fours);
                due("4: count(1)", x.count(1), fours);
            }
        }
    }

    private static long[] ones(int n) {
        long[] ones = new long[n];
        java.util.Arrays.fill(ones, 1);
        return ones;
    }

    /** "one is not as it may be": those ahead came, none behind. */
    private static void roadsUntilOneMayNotBe() {
        long[][] wrong = {{0, 1, 1, 0}, {11, 1, 1, 0}, {2, 1, 1, 0}, {20, 1, 1, 0}, {-1, 1, 1, 0}, {-10, 1, 1, 0}, {-9, 1, 1, 0},
            {101, 1, 1, 0}, {1, 0, 1, 0}, {1, -1, 1, 0}, {1, 61, 1, 0}, {1, 1, 0, 0}, {1, 1, -1, 0}, {1, 1, 301, 0},
            {1, 1, 1, -1}, {1, 1, 1, 100}, {1, 1, 100, 100}, {32767, 1, 1, 0}, {1, 32767, 1, 0}, {1, 1, 32767, 0},
            {1, 1, 1, 32767}, {-32768, 1, 1, 0}, {1, -32768, 1, 0}, {1, 1, -32768, 0}, {1, 1, 1, -32768}};
        for (long[] w : wrong) {
            String call = w[0] + ", " + w[1] + ", " + w[2] + ", " + w[3];
            for (int ahead = 0; ahead <= 2; ahead++) {
                ThumbOut x = Check.places(2);
                long[] row = ones(16);
                System.arraycopy(w, 0, row, 4 * ahead, 4);
                Check.row(x, 0, 1, row);
                due("4: " + ahead + " ahead of " + call, x.roads(0, 0, 4), ahead);
                due("4: those ahead came", x.count(1), ahead);
                due("4: from there none", x.roads(0, 4 * ahead, 4), 0);
                due("4: behind it", x.roads(0, 4 * ahead + 4, 4), 3 - ahead);
            }
        }
    }

    /** "or ROADS are FULL: those ahead came" */
    private static void roadsUntilFull() {
        for (int there = 0; there <= 16; there++) {
            ThumbOut x = fours(15);
            for (int i = 0; i < there; i++) {
                x.road(10, 1, 100);
            }
            int room = Math.min(15, 16 - there);
            due("4: with " + there + " there", x.roads(0, 0, 15), room);
            due("4: count(1)", x.count(1), there + room);
            if (room > 0) {
                road("the last with " + there + " there", x, there + room - 1, 1, room, 301 - room, 100 - room);
            }
            due("4: one more", x.roads(0, 0, 1), there + room < 16 ? 1 : 0);
            due("4: full", x.roads(0, 0, 15), 0);
        }
    }

    /** "-12 (no ROW of shorts ..)" */
    private static void roadsOfShorts() {
        ThumbOut x = Check.places(2);
        x.body(0);
        x.keep(0, 0);
        due("4: a body", x.roads(0, 0, 1), -12);
        for (int sort = 0; sort <= 4; sort++) {
            x.row(0, sort, 4);
            for (int i = 0; i < 4; i++) {
                x.put(0, i, 1);
            }
            due("4: sort " + sort, x.roads(0, 0, 1), sort == 1 ? 1 : -12);
            due("4: sort " + sort + ", behind its end", x.roads(0, 4, 1), sort == 1 ? 0 : -12);
            x.row(0, sort, 0);
            due("4: sort " + sort + ", empty", x.roads(0, 0, 1), sort == 1 ? 0 : -12);
        }
    }

    /** "BAD", of several ahead of -12. */
    private static void roadsBad() {
        ThumbOut x = fours(2);
        x.row(1, 2, 4);
        for (int shelf : NO_SHELVES) {
            due("4: roads(" + shelf + ", 0, 1)", x.roads(shelf, 0, 1), BAD);
        }
        int[] ns = {0, -1, 16, LOW, HIGH};
        for (int n : ns) {
            due("4: ints, n " + n, x.roads(1, 0, n), BAD);
            due("4: nothing, n " + n, x.roads(2, 0, n), BAD);
            due("4: below 0, n " + n, x.roads(0, -1, n), BAD);
        }
        due("4: none came", x.count(1), 0);
    }

    /** "BODIES 0 .. 49 are kept by call"; "its number. BAD, FULL." */
    private static void bodiesAsTheyCome() {
        ThumbOut x = new ThumbOut();
        for (int i = 0; i < 50; i++) {
            due("30: body " + i, x.body(i % 8), i);
        }
        due("30: a 51st", x.body(0), FULL);
        due("30: a 52nd", x.body(7), FULL);
        due("30: BAD ahead of FULL", x.body(8), BAD);
        due("30: BAD ahead of FULL", x.body(-1), BAD);
        due("30: count(5)", x.count(5), 50);
        for (int i = 0; i < 50; i++) {
            x.keep(0, i);
            due("38: kind of " + i, x.taken(0, 0), i % 8);
        }
        due("33: no body 50", x.keep(0, 50), BAD);
    }

    /** "KIND (0 .. 7)"; "BAD" */
    private static void bodyBad() {
        ThumbOut x = new ThumbOut();
        int[] bad = {-1, -2, 8, 9, 100, LOW, HIGH};
        for (int kind : bad) {
            due("30: body(" + kind + ")", x.body(kind), BAD);
        }
        due("30: none came", x.count(5), 0);
        due("30: the last kind", x.body(7), 0);
        due("30: the first kind", x.body(0), 1);
    }

    /** "x (an int that wraps)" */
    private static void actsOfIntsThatWrap() {
        ThumbOut x = new ThumbOut();
        for (int kind = 0; kind < 8; kind++) {
            x.body(kind);
        }
        due("31: WAIT stands", x.act(0, 0, HIGH), HIGH);
        due("31: GOOD stands", x.act(1, 0, HIGH), HIGH + 1 + 3);
        due("31: WAIT stops", x.act(0, 1, HIGH), -2);
        due("31: WAIT stops", x.act(0, 1, LOW), 0);
        due("31: GOOD stops", x.act(1, 1, HIGH), (HIGH + 4) * 2);
        due("31: BAD stops", x.act(2, 1, 1073741822), LOW);
        due("31: ASKING rides", x.act(3, 2, HIGH), (HIGH ^ 3) * 3);
        due("31: ASKING stops", x.act(3, 1, HIGH), (LOW + 6) * 2);
        due("31: WAIT chooses", x.act(0, 3, LOW), -1);
        due("31: SHARED chooses", x.act(4, 3, HIGH), (HIGH + 4) * 2 - (1 ^ 4) ^ 5);
        due("31: NIGHT rides", x.act(5, 2, LOW), (LOW ^ 5) - 7);
        due("31: NIGHT chooses", x.act(5, 3, HIGH), -((HIGH + 5) * 2) - ((1 ^ 5) - 7) + 1);
        due("31: REFUSED stands", x.act(6, 0, HIGH), (HIGH + 6) * 2);
        due("31: REFUSED chooses", x.act(6, 3, HIGH), (HIGH + 6) * 2 * 2 - (1 ^ 6) ^ 5);
        due("31: WALKED stands", x.act(7, 0, LOW), LOW + 7 + 3 - 1);
        due("31: WALKED stops", x.act(7, 1, HIGH), (LOW + 7 + 3 - 1) * 2 + (2 ^ 7) * 3);
    }

    /** "n its number" */
    private static void actsByTheirNumbers() {
        ThumbOut x = new ThumbOut();
        for (int i = 0; i < 50; i++) {
            x.body(0);
        }
        for (int i = 0; i < 50; i++) {
            due("31: body " + i + " stands", x.act(i, 0, 5), 5 + i);
            due("31: body " + i + " rides", x.act(i, 2, 5), 5 ^ i);
        }
    }

    /** "0, and no TRACE then: no such BODY, ACT." */
    private static void actOfNone() {
        ThumbOut x = new ThumbOut();
        due("31: no bodies", x.act(0, 0, 7), 0);
        x.body(7);
        int[] none = {-1, -2, 1, 2, 49, 50, LOW, HIGH};
        for (int body : none) {
            due("31: WALKED chooses", x.act(0, 3, 9) == 0 ? 0 : 1, 1);
            due("39: eleven ran", x.count(6), 11);
            due("31: act(" + body + ", 0, 7)", x.act(body, 0, 7), 0);
            due("32: no trace", x.trace(0), BAD);
            due("39: none ran", x.count(6), 0);
        }
        int[] acts = {-1, -2, 4, 5, LOW, HIGH};
        for (int act : acts) {
            x.act(0, 3, 9);
            due("32: a trace", x.trace(10) > 0 ? 1 : 0, 1);
            due("31: act(0, " + act + ", 7)", x.act(0, act, 7), 0);
            due("32: no trace", x.trace(0), BAD);
            due("39: none ran", x.count(6), 0);
        }
    }

    private static void traces(String call, ThumbOut x, int... numbers) {
        for (int i = 0; i < numbers.length; i++) {
            due("32: " + call + ", trace(" + i + ")", x.trace(i), numbers[i]);
        }
        due("32: " + call + " ends", x.trace(numbers.length), BAD);
        due("39: " + call + ", count(6)", x.count(6), numbers.length);
    }

    /** "numbers of the bodies that ran in the latest act(), as they began" */
    private static void traceAsTheyBegan() {
        ThumbOut x = new ThumbOut();
        for (int kind = 0; kind < 8; kind++) {
            x.body(kind);
        }
        x.act(7, 3, 1);
        traces("WALKED chooses", x, 2, 80, 41, 10, 81, 20, 1, 40, 11, 40, 11);
        x.act(5, 3, 1);
        traces("NIGHT chooses", x, 61, 2, 30, 10, 1, 60, 11, 1);
        x.act(6, 3, 1);
        traces("REFUSED chooses", x, 50, 2, 10, 70, 1, 11);
        x.act(3, 0, 1);
        traces("ASKING stands", x, 20, 1);
        x.act(4, 2, 1);
        traces("SHARED rides", x, 11);
        x.act(0, 0, 1);
        traces("WAIT stands", x, 1);
    }

    /** "BAD" */
    private static void traceBad() {
        ThumbOut x = new ThumbOut();
        due("32: nothing yet", x.trace(0), BAD);
        x.body(7);
        x.act(0, 3, 1);
        int[] bad = {-1, -2, 11, 12, 23, 24, 25, LOW, HIGH};
        for (int i : bad) {
            due("32: trace(" + i + ")", x.trace(i), BAD);
        }
        due("32: the last", x.trace(10), 11);
        x.body(8);
        x.keep(0, 5);
        due("32: other calls leave it", x.trace(10), 11);
    }

    /** "A SHELF holds nothing (body -1), or a BODY: 1." */
    private static void keepNothing() {
        ThumbOut x = new ThumbOut();
        for (int shelf = 0; shelf <= 5; shelf++) {
            due("33: nothing at first", x.taken(shelf, 0), -11);
            due("33: nothing, though there is nothing", x.keep(shelf, -1), 1);
        }
        x.body(3);
        for (int shelf = 0; shelf <= 5; shelf++) {
            due("33: a body", x.keep(shelf, 0), 1);
            due("33: it is there", x.taken(shelf, 0), 3);
            due("33: nothing", x.keep(shelf, -1), 1);
            due("33: nothing there", x.taken(shelf, 0), -11);
            due("33: nor a row", x.put(shelf, 0, 1), -11);
            x.row(shelf, 3, 1);
            due("33: nothing for a row", x.keep(shelf, -1), 1);
            due("33: no row there", x.put(shelf, 0, 1), -11);
        }
    }

    /** "BAD" */
    private static void keepBad() {
        ThumbOut x = new ThumbOut();
        due("33: no bodies", x.keep(0, 0), BAD);
        x.body(3);
        x.keep(0, 0);
        int[] bodies = {-2, -3, 1, 2, 49, 50, LOW, HIGH};
        for (int body : bodies) {
            due("33: keep(0, " + body + ")", x.keep(0, body), BAD);
            due("33: what was stays", x.taken(0, 3), 3);
        }
        for (int shelf : NO_SHELVES) {
            due("33: keep(" + shelf + ", 0)", x.keep(shelf, 0), BAD);
            due("33: keep(" + shelf + ", -1)", x.keep(shelf, -1), BAD);
        }
    }

    /** "of 0 .. 60 elements" */
    private static void rowSizes() {
        ThumbOut x = new ThumbOut();
        for (int n = 0; n <= 60; n++) {
            due("34: row of " + n, x.row(n % 6, n % 5, n), 1);
            due("34: the last of " + n, x.put(n % 6, n - 1, 1), n == 0 ? -13 : 1);
            due("34: none behind", x.put(n % 6, n, 1), -13);
        }
        int[] above = {61, 62, 100, HIGH};
        for (int n : above) {
            due("34: row of " + n, x.row(0, 2, n), BAD);
        }
        due("34: BAD leaves the row", x.put(0, 59, 1), 1);
    }

    /** "a ROW: of 0 bytes, 1 shorts, 2 ints, 3 longs, 4 booleans" */
    private static void rowSorts() {
        ThumbOut x = new ThumbOut();
        long[] kept = {-1, 0x7fff, 0x7fffffff, 0x7fffffffffL, 1};
        long[] put = {255, 0x17fff, 0x17fffffffL, 0x7fffffffffL, 0x100000000L};
        for (int sort = 0; sort <= 4; sort++) {
            due("34: sort " + sort, x.row(0, sort, 1), 1);
            x.put(0, 0, put[sort]);
            due("34: what sort " + sort + " keeps", x.element(0, 0), kept[sort]);
        }
        int[] bad = {-1, -2, 5, 6, LOW, HIGH};
        for (int sort : bad) {
            due("34: sort " + sort, x.row(0, sort, 1), BAD);
        }
        due("34: BAD leaves the row", x.element(0, 0), 1);
    }

    /** "0 at first (false)": anew, too. */
    private static void rowOfZeros() {
        ThumbOut x = new ThumbOut();
        for (int sort = 0; sort <= 4; sort++) {
            x.row(0, sort, 20);
            for (int i = 0; i < 20; i++) {
                due("34: 0 at first", x.element(0, i), 0);
                x.put(0, i, 1);
            }
            x.row(0, sort, 20);
            due("34: 0 anew", x.element(0, 0) + x.element(0, 19), 0);
            x.put(0, 19, 1);
            x.row(0, sort, 5);
            x.row(0, sort, 20);
            due("34: 0 behind a shorter one", x.element(0, 19), 0);
        }
        x.body(0);
        x.row(0, 3, 2);
        x.put(0, 0, 5);
        x.keep(0, 0);
        x.row(0, 3, 2);
        due("34: 0 behind a body", x.element(0, 0), 0);
        x.put(0, 0, 5);
        x.keep(0, -1);
        x.row(0, 3, 2);
        due("34: 0 behind nothing", x.element(0, 0), 0);
    }

    /** "BAD (sort, n above 60); -14." */
    private static void rowRefused() {
        ThumbOut x = new ThumbOut();
        Check.row(x, 0, 2, 7, 8);
        int[] below = {-1, -2, -60, LOW};
        for (int n : below) {
            due("34: row of " + n, x.row(0, 2, n), -14);
            due("34: on no shelf of nothing", x.row(1, 2, n), -14);
            due("34: BAD ahead of -14", x.row(0, 5, n), BAD);
            due("34: BAD ahead of -14", x.row(0, -1, n), BAD);
            due("34: BAD ahead of -14", x.row(6, 2, n), BAD);
        }
        for (int shelf : NO_SHELVES) {
            due("34: row(" + shelf + ", 2, 1)", x.row(shelf, 2, 1), BAD);
        }
        due("34: refused changes nothing", x.element(0, 0) * 10 + x.element(0, 1), 78);
        due("34: nor comes a row", x.put(1, 0, 1), -11);
    }

    /** "what is put in keeps its lowest bits" */
    private static void putLowestBits() {
        long[] values = {0, 1, -1, 127, 128, 129, 255, 256, 257, -128, -129, -256, 32767, 32768, 32769, 65535, 65536, 65537,
            -32768, -32769, 0x7fffffffL, 0x80000000L, 0x80000001L, 0xffffffffL, 0x100000000L, 0x100000001L, -0x80000000L,
            -0x80000001L, Long.MAX_VALUE, Long.MAX_VALUE - 1, Long.MIN_VALUE + 1, 0x0123456789abcdefL};
        ThumbOut x = new ThumbOut();
        x.row(0, 0, 60);
        x.row(1, 1, 60);
        x.row(2, 2, 60);
        x.row(3, 3, 60);
        for (int i = 0; i < values.length; i++) {
            for (int sort = 0; sort <= 3; sort++) {
                due("35: put", x.put(sort, i, values[i]), 1);
            }
            due("35: byte of " + values[i], x.element(0, i), (byte) values[i]);
            due("35: short of " + values[i], x.element(1, i), (short) values[i]);
            due("35: int of " + values[i], x.element(2, i), (int) values[i]);
            due("35: long of " + values[i], x.element(3, i), values[i]);
        }
        for (int sort = 0; sort <= 3; sort++) {
            due("35: others stay", x.element(sort, 1), 1);
            due("35: those behind stay 0", x.element(sort, 59), 0);
        }
    }

    /** "(a boolean: whether it is not 0; 1 or 0)" */
    private static void putBooleans() {
        long[] values = {0, 1, 2, -1, 256, 0x100000000L, Long.MIN_VALUE, Long.MAX_VALUE, 0};
        ThumbOut x = new ThumbOut();
        x.row(0, 4, 1);
        for (long v : values) {
            due("35: put(0, 0, " + v + ")", x.put(0, 0, v), 1);
            due("36: boolean of " + v, x.element(0, 0), v == 0 ? 0 : 1);
        }
    }

    /** "BAD, -11, -12, -13." */
    private static void putRefused() {
        ThumbOut x = new ThumbOut();
        x.body(0);
        x.keep(1, 0);
        x.row(2, 3, 4);
        x.row(3, 3, 0);
        for (int shelf : NO_SHELVES) {
            due("35: put(" + shelf + ", 0, 1)", x.put(shelf, 0, 1), BAD);
            due("35: put(" + shelf + ", -1, 1)", x.put(shelf, -1, 1), BAD);
        }
        int[] places = {0, 1, -1, 60, LOW, HIGH};
        for (int i : places) {
            due("35: nothing there, place " + i, x.put(0, i, 1), -11);
            due("35: a body, place " + i, x.put(1, i, 1), -12);
            due("35: an empty row, place " + i, x.put(3, i, 1), -13);
        }
        int[] away = {-1, -2, 4, 5, 59, 60, LOW, HIGH};
        for (int i : away) {
            due("35: put(2, " + i + ", 1)", x.put(2, i, 1), -13);
        }
        due("35: the first", x.put(2, 0, 1), 1);
        due("35: the last", x.put(2, 3, 1), 1);
        due("35: the body is there still", x.taken(1, 0), 0);
    }

    /** "Element i of a ROW": also one that is Long.MIN_VALUE. */
    private static void elementOfLeast() {
        ThumbOut x = new ThumbOut();
        Check.row(x, 0, 3, Long.MIN_VALUE, Long.MIN_VALUE + 1, Long.MAX_VALUE);
        due("36: the least", x.element(0, 0), Long.MIN_VALUE);
        due("36: one more", x.element(0, 1), Long.MIN_VALUE + 1);
        due("36: the most", x.element(0, 2), Long.MAX_VALUE);
        x.row(1, 2, 2);
        x.put(1, 0, Long.MIN_VALUE);
        due("36: its lowest bits as an int", x.element(1, 0), 0);
    }

    /** "Long.MIN_VALUE: BAD, -11 to -13." */
    private static void elementRefused() {
        ThumbOut x = new ThumbOut();
        x.body(0);
        x.keep(1, 0);
        x.row(2, 2, 3);
        x.row(3, 0, 0);
        for (int shelf : NO_SHELVES) {
            due("36: element(" + shelf + ", 0)", x.element(shelf, 0), NONE);
        }
        due("36: nothing there", x.element(0, 0), NONE);
        due("36: a body", x.element(1, 0), NONE);
        due("36: an empty row", x.element(3, 0), NONE);
        int[] away = {-1, -2, 3, 4, 60, LOW, HIGH};
        for (int i : away) {
            due("36: element(2, " + i + ")", x.element(2, i), NONE);
        }
        due("36: the last", x.element(2, 2), 0);
    }

    private static void holds(String call, ThumbOut x, int shelf, long... elements) {
        for (int i = 0; i < elements.length; i++) {
            due("37: " + call + ", element " + i, x.element(shelf, i), elements[i]);
        }
    }

    /** "come to another one (or the same) .., as they all were before: n" */
    private static void shiftAsTheyWere() {
        for (int i = 0; i <= 6; i++) {
            for (int j = 0; j <= 6; j++) {
                int n = 6 - Math.max(i, j);
                ThumbOut x = new ThumbOut();
                Check.row(x, 0, 2, 1, 2, 3, 4, 5, 6);
                Check.row(x, 1, 2, 10, 20, 30, 40, 50, 60);
                long[] same = {1, 2, 3, 4, 5, 6};
                long[] other = {10, 20, 30, 40, 50, 60};
                for (int k = 0; k < n; k++) {
                    same[j + k] = 1 + i + k;
                    other[j + k] = 1 + i + k;
                }
                due("37: to another, from " + i + " to " + j, x.shift(0, i, 1, j, n), n);
                holds("to another, from " + i + " to " + j, x, 1, other);
                due("37: to itself, from " + i + " to " + j, x.shift(0, i, 0, j, n), n);
                holds("to itself, from " + i + " to " + j, x, 0, same);
            }
        }
    }

    /** All 60 of each sort. */
    private static void shiftAll() {
        for (int sort = 0; sort <= 4; sort++) {
            ThumbOut x = new ThumbOut();
            x.row(4, sort, 60);
            x.row(5, sort, 60);
            for (int i = 0; i < 60; i++) {
                x.put(4, i, i % 7 - 3);
            }
            due("37: all of sort " + sort, x.shift(4, 0, 5, 0, 60), 60);
            for (int i = 0; i < 60; i++) {
                due("37: element " + i, x.element(5, i), sort == 4 ? i % 7 == 3 ? 0 : 1 : i % 7 - 3);
            }
            due("37: one less", x.shift(4, 1, 4, 0, 59), 59);
            due("37: one more", x.shift(4, 0, 5, 0, 61), -13);
        }
    }

    /** None of them: at each place of the rows, and right behind them. */
    private static void shiftOfNone() {
        ThumbOut x = new ThumbOut();
        x.row(0, 3, 3);
        x.row(1, 3, 0);
        for (int i = 0; i <= 3; i++) {
            due("37: none from " + i, x.shift(0, i, 1, 0, 0), 0);
            due("37: none to " + i, x.shift(1, 0, 0, i, 0), 0);
        }
        due("37: none of an empty row", x.shift(1, 0, 1, 0, 0), 0);
        due("37: one of an empty row", x.shift(1, 0, 0, 0, 1), -13);
        due("37: one to an empty row", x.shift(0, 0, 1, 0, 1), -13);
    }

    /** "BAD, -11 (either), -12 (no ROWS, or of unlike sorts)", of several the one named first. */
    private static void shiftRefused() {
        ThumbOut x = new ThumbOut();
        x.body(0);
        x.keep(1, 0);
        for (int sort = 0; sort <= 3; sort++) {
            x.row(2 + sort, sort, 3);
        }
        for (int shelf : NO_SHELVES) {
            due("37: from shelf " + shelf, x.shift(shelf, 0, 2, 0, 1), BAD);
            due("37: to shelf " + shelf, x.shift(2, 0, shelf, 0, 1), BAD);
            due("37: BAD ahead of -11", x.shift(shelf, 0, 0, 0, 1), BAD);
            due("37: BAD ahead of -11", x.shift(0, 0, shelf, 0, 1), BAD);
            due("37: BAD ahead of -12", x.shift(1, 0, shelf, 0, 1), BAD);
            due("37: BAD ahead of -13", x.shift(2, -1, shelf, 0, 1), BAD);
        }
        int[] ns = {1, 0, -1, 4, LOW, HIGH};
        for (int n : ns) {
            due("37: nothing", x.shift(0, 0, 2, 0, n), -11);
            due("37: to nothing", x.shift(2, 0, 0, 0, n), -11);
            due("37: nothing to itself", x.shift(0, 0, 0, 0, n), -11);
            due("37: -11 ahead of -12", x.shift(1, 0, 0, 0, n), -11);
            due("37: -11 ahead of -12", x.shift(0, 0, 1, 0, n), -11);
            due("37: a body", x.shift(1, 0, 2, 0, n), -12);
            due("37: to a body", x.shift(2, 0, 1, 0, n), -12);
            due("37: a body to itself", x.shift(1, 0, 1, 0, n), -12);
            due("37: unlike sorts", x.shift(2, 0, 3, 0, n), -12);
            due("37: unlike sorts", x.shift(5, 0, 4, 0, n), -12);
            due("37: -12 ahead of -13", x.shift(4, -1, 5, -1, n), -12);
        }
        x.row(2, 4, 3);
        x.row(3, 0, 3);
        due("37: bytes to booleans", x.shift(3, 0, 2, 0, 1), -12);
    }

    /** "-13 (n below 0, too)" */
    private static void shiftPlaces() {
        for (int i = -2; i <= 6; i++) {
            for (int j = -2; j <= 8; j++) {
                ThumbOut x = new ThumbOut();
                x.row(0, 2, 4);
                x.row(1, 2, 6);
                for (int n = -2; n <= 7; n++) {
                    boolean good = i >= 0 && j >= 0 && n >= 0 && i + n <= 4 && j + n <= 6;
                    due("37: shift(0, " + i + ", 1, " + j + ", " + n + ")", x.shift(0, i, 1, j, n), good ? n : -13);
                }
            }
        }
        ThumbOut x = new ThumbOut();
        x.row(0, 2, 4);
        Check.row(x, 1, 2, 1, 2, 3, 4, 5, 6);
        int[][] far = {{LOW, 0, 1}, {HIGH, 0, 1}, {0, LOW, 1}, {0, HIGH, 1}, {0, 0, LOW}, {0, 0, HIGH}, {HIGH, HIGH, HIGH},
            {1, 1, HIGH}, {HIGH, 0, HIGH}, {LOW, LOW, LOW}, {HIGH, 0, 0}, {0, HIGH, 0}, {LOW, 0, 0}, {HIGH, HIGH, 2}};
        for (int[] f : far) {
            due("37: shift(0, " + f[0] + ", 1, " + f[1] + ", " + f[2] + ")", x.shift(0, f[0], 1, f[1], f[2]), -13);
        }
        holds("refused changes nothing", x, 1, 1, 2, 3, 4, 5, 6);
    }

    /** "taken for a BODY of KIND k (0 .. 7), or under it: its KIND"; else of another kind. */
    private static void takenKinds() {
        int[][] for0 = {{0}, {1, 0}, {2, 0}, {3, 1, 0}, {4, 0}, {5, 2, 0}, {6, 4, 0}, {7, 3, 1, 0}};
        for (int kind = 0; kind < 8; kind++) {
            ThumbOut x = new ThumbOut();
            x.body(7 - kind);
            x.body(kind);
            x.keep(3, 1);
            for (int k = 0; k < 8; k++) {
                boolean under = false;
                for (int above : for0[kind]) {
                    under |= above == k;
                }
                due("38: kind " + kind + " for " + k, x.taken(3, k), under ? kind : -12);
            }
        }
    }

    /** "BAD, -11, -12." */
    private static void takenRefused() {
        ThumbOut x = new ThumbOut();
        x.body(0);
        x.keep(1, 0);
        int[] kinds = {-1, -2, 8, 9, LOW, HIGH};
        for (int k : kinds) {
            for (int shelf = 0; shelf <= 2; shelf++) {
                due("38: taken(" + shelf + ", " + k + ")", x.taken(shelf, k), BAD);
            }
        }
        for (int shelf : NO_SHELVES) {
            due("38: taken(" + shelf + ", 0)", x.taken(shelf, 0), BAD);
        }
        for (int k = 0; k < 8; k++) {
            due("38: nothing there for " + k, x.taken(0, k), -11);
            for (int sort = 0; sort <= 4; sort++) {
                x.row(2, sort, k % 3);
                due("38: a row for " + k, x.taken(2, k), -12);
            }
        }
    }

    /** "BAD" */
    private static void countBad() {
        ThumbOut x = new ThumbOut();
        int[] bad = {-1, -2, 7, 8, 100, LOW, HIGH};
        for (int what : bad) {
            due("39: count(" + what + ")", x.count(what), BAD);
        }
        for (int what = 0; what <= 6; what++) {
            due("39: count(" + what + ")", x.count(what), 0);
        }
    }

    /** "bodies that ran in the latest act() (all, kept or not)" */
    private static void countOfThoseThatRan() {
        ThumbOut x = new ThumbOut();
        for (int kind = 0; kind < 8; kind++) {
            x.body(kind);
        }
        int[][] ran = {{1, 2, 1, 4}, {2, 3, 1, 5}, {1, 3, 1, 5}, {2, 4, 2, 7}, {1, 2, 1, 5}, {1, 3, 3, 8}, {2, 3, 1, 6},
            {3, 8, 2, 11}};
        for (int kind = 0; kind < 8; kind++) {
            for (int act = 0; act < 4; act++) {
                x.act(kind, act, 5);
                due("39: act " + act + " of kind " + kind, x.count(6), ran[kind][act]);
            }
        }
    }
}
