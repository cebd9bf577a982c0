/** Promises 1 to 3, 5 to 8, 14, 28, 29: places, roads, walks, settings, changes. */
public final class LandTest {
    private static final Check CHECK = new Check("LandTest");

    public static void main(String[] args) {
        newObject();
        places();
        roads();
        walks();
        settings();
        mending();
        asking();
        distances();
        undoing();
        mendingToTheSame();
        manyChanges();
        manyUnlikeChanges();
        CHECK.end();
    }

    private static void due(String call, long got, long want) {
        CHECK.due(call, got, want);
    }

    private static void newObject() {
        ThumbOut x = new ThumbOut();
        for (int what = 0; what <= 6; what++) {
            due("1: count(" + what + ")", x.count(what), 0);
        }
        due("1: of(0, 0)", x.of(0, 0), ThumbOut.BAD);
        due("1: never()", x.never(), 0);
        due("1: force(-1)", x.force(-1), -1);
        due("1: trace(0)", x.trace(0), ThumbOut.BAD);
        for (int shelf = 0; shelf <= 5; shelf++) {
            due("1: taken", x.taken(shelf, 0), -11);
        }
        int[] first = {0, 1200, 1, 0, -1, 0};
        for (int what = 0; what < first.length; what++) {
            due("1: set(" + what + ", ..)", x.set(what, Math.max(first[what], 0)), first[what]);
        }
    }

    private static void places() {
        ThumbOut x = new ThumbOut();
        int[] bad = {-1, -10, 2, 9, 92, 99, 100, 101, 110, Integer.MIN_VALUE, Integer.MAX_VALUE};
        for (int rp : bad) {
            due("2: place(" + rp + ")", x.place(rp), ThumbOut.BAD);
        }
        int[] good = {0, 1, 90, 91, 50, 51, 10, 31};
        for (int i = 0; i < good.length; i++) {
            due("2: place(" + good[i] + ")", x.place(good[i]), i);
        }
        due("2: a ninth place", x.place(50), ThumbOut.FULL);
        due("2: BAD ahead of FULL", x.place(52), ThumbOut.BAD);
        due("2: count(0)", x.count(0), 8);
        for (int i = 0; i < good.length; i++) {
            due("2: room of " + i, x.of(i, 0), good[i] / 10);
            due("2: pumps of " + i, x.of(i, 1), good[i] % 10);
        }
    }

    private static void roads() {
        ThumbOut x = new ThumbOut();
        due("3: no places", x.road(1, 1, 100), ThumbOut.BAD);
        x.place(50);
        x.place(50);
        x.place(50);
        int[][] bad = {{0, 1, 100}, {11, 1, 100}, {3, 1, 100}, {31, 1, 100}, {-1, 1, 100}, {-10, 1, 100},
            {1, 0, 100}, {1, -1, 100}, {1, 61, 100}, {1, 1, 0}, {1, 1, 99}, {1, 1, -1}, {1, 1, -100},
            {1, 1, 30100}, {1, 1, Integer.MAX_VALUE}, {1, 1, Integer.MIN_VALUE}, {101, 1, 100},
            {Integer.MAX_VALUE, 1, 100}, {Integer.MIN_VALUE, 1, 100}, {9, 1, 100}, {90, 1, 100}};
        for (int[] b : bad) {
            due("3: road(" + b[0] + ", " + b[1] + ", " + b[2] + ")", x.road(b[0], b[1], b[2]), ThumbOut.BAD);
        }
        due("3: least", x.road(1, 1, 100), 0);
        due("3: most", x.road(12, 60, 30099), 1);
        due("3: the same once more", x.road(12, 60, 30099), 2);
        for (int i = 3; i < 16; i++) {
            due("3: road " + i, x.road(21, i, 100 * i + 7), i);
        }
        due("3: a 17th road", x.road(21, 1, 100), ThumbOut.FULL);
        due("3: BAD ahead of FULL", x.road(22, 1, 100), ThumbOut.BAD);
        due("3: count(1)", x.count(1), 16);
        due("3: ab", x.of(0, 10), 1);
        due("3: long", x.of(1, 12), 300);
        due("3: danger", x.of(1, 13), 99);
        due("3: flow", x.of(15, 11), 15);
    }

    private static void walks() {
        ThumbOut x = new ThumbOut();
        x.place(50);
        x.place(50);
        due("5: walk(1, 5)", x.walk(1, 5), 0);
        due("5: the other way", x.walk(10, 300), 5);
        due("5: none again", x.walk(1, 0), 300);
        due("5: none there", x.walk(1, 7), 0);
        int[][] bad = {{0, 5}, {11, 5}, {2, 5}, {20, 5}, {1, -1}, {1, 301}, {-1, 5}, {-10, 5}, {100, 5},
            {Integer.MIN_VALUE, 0}, {Integer.MAX_VALUE, 0}};
        for (int[] b : bad) {
            due("5: walk(" + b[0] + ", " + b[1] + ")", x.walk(b[0], b[1]), ThumbOut.BAD);
        }
        due("5: BAD changes nothing", x.walk(10, 7), 7);
    }

    private static void settings() {
        ThumbOut x = new ThumbOut();
        int[][] most = {{0, 0, 7}, {1, 0, 1439}, {2, 1, 2}, {3, 0, 1}, {4, -1, 7},
            {5, Integer.MIN_VALUE, Integer.MAX_VALUE}};
        int[] was = {0, 1200, 1, 0, -1, 0};
        for (int[] m : most) {
            due("6: set(" + m[0] + ", least)", x.set(m[0], m[1]), was[m[0]]);
            due("6: set(" + m[0] + ", most)", x.set(m[0], m[2]), m[1]);
            if (m[0] < 5) {
                due("6: below", x.set(m[0], m[1] - 1), ThumbOut.VOID);
                due("6: above", x.set(m[0], m[2] + 1), ThumbOut.VOID);
            }
            due("6: what it was", x.set(m[0], m[1]), m[2]);
        }
        due("6: set(-1, 0)", x.set(-1, 0), ThumbOut.VOID);
        due("6: set(6, 0)", x.set(6, 0), ThumbOut.VOID);
        due("6: set(MAX, 0)", x.set(Integer.MAX_VALUE, 0), ThumbOut.VOID);
    }

    private static ThumbOut pair() {
        ThumbOut x = new ThumbOut();
        x.place(51);
        x.place(30);
        x.road(1, 30, 4510);
        return x;
    }

    private static void mending() {
        ThumbOut x = pair();
        due("7: room", x.mend(0, 0, 9), 5);
        due("7: room of the other one", x.mend(1, 0, 0), 3);
        due("7: flow", x.mend(0, 1, 60), 30);
        due("7: least flow", x.mend(0, 1, 1), 60);
        due("7: danger", x.mend(0, 2, 99), 10);
        due("7: least danger", x.mend(0, 2, 0), 99);
        due("7: of room", x.of(0, 0), 9);
        due("7: pumps stay", x.of(0, 1), 1);
        due("7: of flow", x.of(0, 11), 1);
        due("7: of danger", x.of(0, 13), 0);
        due("7: long stays", x.of(0, 12), 45);
        int[][] bad = {{0, 0, -1}, {0, 0, 10}, {2, 0, 1}, {-1, 0, 1}, {0, 1, 0}, {0, 1, 61}, {1, 1, 1}, {-1, 1, 1},
            {0, 2, -1}, {0, 2, 100}, {1, 2, 1}, {0, 3, 1}, {0, -1, 1}, {Integer.MAX_VALUE, 0, 1},
            {Integer.MIN_VALUE, 1, 1}};
        for (int[] b : bad) {
            due("7: mend(" + b[0] + ", " + b[1] + ", " + b[2] + ")", x.mend(b[0], b[1], b[2]), ThumbOut.BAD);
        }
        due("7: BAD is no change", x.count(4), 6);
    }

    private static void asking() {
        ThumbOut x = pair();
        due("8: room", x.of(0, 0), 5);
        due("8: pumps", x.of(0, 1), 1);
        due("8: room of 1", x.of(1, 0), 3);
        due("8: no pumps", x.of(1, 1), 0);
        due("8: ab", x.of(0, 10), 1);
        due("8: flow", x.of(0, 11), 30);
        due("8: long", x.of(0, 12), 45);
        due("8: danger", x.of(0, 13), 10);
        due("8: cars", x.of(0, 14), 720);
        x.mend(0, 1, 7);
        due("8: cars of 7 an hour", x.of(0, 14), 168);
        int[][] bad = {{2, 0}, {2, 1}, {-1, 0}, {1, 10}, {1, 14}, {-1, 14}, {0, 2}, {0, 9}, {0, 15}, {0, -1},
            {Integer.MAX_VALUE, 10}, {Integer.MIN_VALUE, 0}, {0, Integer.MAX_VALUE}};
        for (int[] b : bad) {
            due("8: of(" + b[0] + ", " + b[1] + ")", x.of(b[0], b[1]), ThumbOut.BAD);
        }
    }

    private static void distances() {
        ThumbOut x = new ThumbOut();
        due("14: no places", x.far(0), ThumbOut.BAD);
        for (int i = 0; i < 4; i++) {
            x.place(50);
        }
        x.road(1, 1, 10000);
        x.road(12, 1, 10000);
        x.road(2, 1, 25000);
        x.road(23, 1, 100);
        x.road(30, 1, 30000);
        due("14: by two roads", x.far(2), 200);
        due("14: by three", x.far(3), 201);
        due("14: round", x.far(10), 401);
        due("14: alike", x.far(22), 0);
        x.road(2, 1, 19900);
        due("14: by the shorter one", x.far(3), 200);
        x.place(50);
        due("14: none", x.far(4), 9999);
        due("14: none from there", x.far(40), 9999);
        due("14: alike without roads", x.far(44), 0);
        int[] bad = {5, 50, 55, -1, -11, 9, 90, 100, 101, Integer.MIN_VALUE, Integer.MAX_VALUE};
        for (int ab : bad) {
            due("14: far(" + ab + ")", x.far(ab), ThumbOut.BAD);
        }
    }

    private static void undoing() {
        ThumbOut x = pair();
        due("28: none", x.undo(), ThumbOut.STATE);
        due("29: none", x.redo(), ThumbOut.STATE);
        x.mend(0, 0, 1);
        x.mend(0, 1, 2);
        x.mend(0, 2, 3);
        x.set(3, 1);
        x.walk(1, 5);
        due("28: only changes count", x.count(4), 3);
        due("28: danger", x.undo(), 2);
        due("28: danger is back", x.of(0, 13), 10);
        due("28: flow", x.undo(), 1);
        due("28: flow is back", x.of(0, 11), 30);
        due("28: room stays", x.of(0, 0), 1);
        due("28: room", x.undo(), 0);
        due("28: room is back", x.of(0, 0), 5);
        due("28: no more", x.undo(), ThumbOut.STATE);
        due("29: room", x.redo(), 2);
        due("29: room is done again", x.of(0, 0), 1);
        due("29: flow", x.redo(), 1);
        due("29: flow is done again", x.of(0, 11), 2);
        due("29: count(4)", x.count(4), 2);
        due("28: flow once more", x.undo(), 1);
        due("7: BAD", x.mend(0, 1, 0), ThumbOut.BAD);
        due("29: BAD keeps it", x.redo(), 1);
        x.undo();
        x.mend(1, 0, 7);
        due("29: another came behind", x.redo(), ThumbOut.STATE);
        due("28: count(4)", x.count(4), 2);
        due("28: the other one", x.undo(), 1);
        due("28: its room", x.of(1, 0), 3);
        due("29: the other one", x.redo(), 0);
        due("29: its room", x.of(1, 0), 7);
        due("28: what was", x.of(0, 11), 30);
    }

    /** Mends ROOM, FLOW and DANGER to what they are: none changes, whatever else is done or undone. */
    private static void mendToTheSame(String when, ThumbOut x) {
        int done = x.count(4);
        for (int number = 0; number < 2; number++) {
            for (int what = 0; what < 3; what++) {
                int is = x.of(number, what == 0 ? 0 : 10 + (what == 1 ? 1 : 3));
                String call = when + ": mend(" + number + ", " + what + ", " + is + ")";
                due(call, x.mend(number, what, is), is);
                due(call + ": count(4)", x.count(4), done);
            }
        }
    }

    private static void mendingToTheSame() {
        ThumbOut x = pair();
        x.road(10, 20, 700);
        mendToTheSame("7: first", x);
        due("28: none", x.undo(), ThumbOut.STATE);
        due("29: none", x.redo(), ThumbOut.STATE);
        x.mend(0, 0, 1);
        x.mend(0, 1, 2);
        x.mend(0, 2, 3);
        mendToTheSame("7: behind changes", x);
        due("28: danger", x.undo(), 2);
        mendToTheSame("7: behind an undo", x);
        due("29: danger, for nothing came behind", x.redo(), 0);
        stands("29: danger", x, new int[] {1, 3, 2, 20, 3, 0});
        x.undo();
        x.undo();
        x.undo();
        mendToTheSame("7: all undone", x);
        due("29: room", x.redo(), 2);
        mendToTheSame("7: behind a redo", x);
        due("29: flow", x.redo(), 1);
        due("29: danger", x.redo(), 0);
        due("28: as many as there were", x.count(4), 3);
        stands("29: all", x, new int[] {1, 3, 2, 20, 3, 0});
        sameThereAndBack();
        sameWhenFull();
    }

    /** Two changes of which the later takes the earlier back are two changes none the less. */
    private static void sameThereAndBack() {
        ThumbOut x = pair();
        x.mend(0, 0, 7);
        x.mend(0, 0, 5);
        due("7: there and back", x.count(4), 2);
        due("28: back", x.undo(), 1);
        due("28: its room", x.of(0, 0), 7);
        due("7: as it is now", x.mend(0, 0, 7), 7);
        due("29: may still be", x.redo(), 0);
        due("29: its room", x.of(0, 0), 5);
        due("28: back", x.undo(), 1);
        due("7: as it becomes by redo()", x.mend(0, 0, 5), 7);
        due("29: another came behind", x.redo(), ThumbOut.STATE);
    }

    /** With as many changes kept as may be, a value that stays pushes none of them out. */
    private static void sameWhenFull() {
        ThumbOut x = pair();
        x.road(10, 20, 700);
        for (int i = 1; i <= 40; i++) {
            x.mend(1, 1, 20 + i);
        }
        mendToTheSame("7: full", x);
        for (int i = 39; i >= 0; i--) {
            due("28: undo", x.undo(), i);
        }
        due("28: the first one too", x.of(1, 11), 20);
        mendToTheSame("7: full and undone", x);
        due("29: the first one again", x.redo(), 39);
    }

    private static void manyChanges() {
        ThumbOut x = pair();
        for (int i = 1; i <= 43; i++) {
            due("28: mend", x.mend(0, 1, i), i == 1 ? 30 : i - 1);
            due("28: kept", x.count(4), Math.min(i, 40));
        }
        for (int i = 39; i >= 0; i--) {
            due("28: undo", x.undo(), i);
        }
        due("28: no more than 40", x.undo(), ThumbOut.STATE);
        due("28: the oldest stay", x.of(0, 11), 3);
        for (int i = 39; i >= 0; i--) {
            due("29: redo", x.redo(), i);
        }
        due("29: no more", x.redo(), ThumbOut.STATE);
        due("29: all again", x.of(0, 11), 43);
    }

    /** More changes than are kept, of rooms, flows and dangers by turns: each comes back as it was. */
    private static void manyUnlikeChanges() {
        int[][] was = new int[51][];
        was[0] = new int[] {5, 3, 30, 20, 10, 0};
        for (int i = 0; i < 50; i++) {
            was[i + 1] = was[i].clone();
            was[i + 1][i % 3 * 2 + i / 3 % 2] = 1 + i % 9;
        }
        ThumbOut x = mendedOften();
        for (int i = 49; i >= 10; i--) {
            due("28: undo", x.undo(), i - 10);
            stands("28: before " + i, x, was[i]);
        }
        due("28: no more", x.undo(), ThumbOut.STATE);
        ThumbOut y = mendedOften();
        for (int i = 0; i < 40; i++) {
            y.undo();
        }
        for (int i = 10; i < 50; i++) {
            due("29: redo", y.redo(), 49 - i);
            stands("29: behind " + i, y, was[i + 1]);
        }
        due("29: no more", y.redo(), ThumbOut.STATE);
    }

    /** 50 changes, by turns of 9 values, none of which is there already. */
    private static ThumbOut mendedOften() {
        ThumbOut x = pair();
        x.road(10, 20, 700);
        for (int i = 0; i < 50; i++) {
            x.mend(i / 3 % 2, i % 3, 1 + i % 9);
        }
        return x;
    }

    private static void stands(String call, ThumbOut x, int[] due) {
        int[] is = {x.of(0, 0), x.of(1, 0), x.of(0, 11), x.of(1, 11), x.of(0, 13), x.of(1, 13)};
        for (int i = 0; i < is.length; i++) {
            due(call + ": value " + i, is[i], due[i]);
        }
    }
}
