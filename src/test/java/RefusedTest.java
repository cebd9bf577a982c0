import java.util.ArrayList;
import java.util.List;

/**
 * "What is answered so changes nothing": each call of the face, refused in each way that the document names, on one
 * of two objects that were made alike; behind it both answer all that can be asked alike.
 */
public final class RefusedTest {
    private static final Check CHECK = new Check("RefusedTest");
    private static final int BAD = ThumbOut.BAD;
    private static final int NOT = ThumbOut.NOT;
    private static final int FULL = ThumbOut.FULL;
    private static final int STATE = ThumbOut.STATE;
    private static final int VOID = ThumbOut.VOID;
    private static final int LOW = Integer.MIN_VALUE;
    private static final int HIGH = Integer.MAX_VALUE;

    /** What an object is full of; PLAIN: of nothing; UNDONE, DONE: all changes, where else one of them is undone. */
    private static final int PLAIN = 0, PLACES = 1, ROADS = 2, LAWS = 3, TAPE = 4, BODIES = 5, UNDONE = 6, DONE = 7;

    public static void main(String[] args) {
        landRefused();
        textsRefused();
        carsRefused();
        goingRefused();
        actsRefused();
        shelvesRefused();
        fullRefused();
        notAndNever();
        asked();
        CHECK.end();
    }

    /** An object with something of each kind; 200 calls at most. */
    private static ThumbOut made(int full) {
        ThumbOut x = new ThumbOut();
        int places = full == PLACES ? 8 : 5;
        for (int i = 0; i < places; i++) {
            x.place(10 * (9 - i) + i % 2);
        }
        x.road(1, 30, 4510);
        x.road(12, 20, 6020);
        x.road(23, 10, 9005);
        x.road(3, 4, 20050);
        x.road(40, 15, 8000);
        for (int i = 5; i < 16 && full == ROADS; i++) {
            x.road(34, 1, 1000 + i);
        }
        x.walk(1, 30);
        x.walk(24, 200);
        int[] settings = {3, 1300, 2, 1, 1, 77};
        for (int what = 0; what < settings.length; what++) {
            x.set(what, settings[what]);
        }
        Check.law(x, "900");
        Check.law(x, "r*50+d");
        for (int i = 2; i < 4 && full == LAWS; i++) {
            Check.law(x, "" + 300 * i);
        }
        x.force(1);
        Check.rule(x, "a<b|m>9");
        for (int i = 0; i < 3 || i < 50 && full == BODIES; i++) {
            x.body(7 - i % 8);
        }
        x.keep(1, 2);
        Check.row(x, 2, 2, 3, -4, 5, 6, 7);
        Check.row(x, 3, 1, 1, 1, 1, 1, 12, 1, 1, 1);
        Check.row(x, 4, 4, 1, 0, 1);
        x.mend(0, 0, 2);
        x.mend(0, 1, 40);
        x.mend(1, 2, 30);
        for (int i = 0; i < (full == UNDONE ? 3 : full == DONE ? 0 : 1); i++) {
            x.undo();
        }
        x.act(0, 3, 9);
        x.feed('r');
        x.feed('+');
        for (int i = 2; i < 120 && full == TAPE; i++) {
            x.feed('1');
        }
        return x;
    }

    /** All that an object tells; what that changes comes last. 300 calls at most. */
    private static List<Long> told(ThumbOut x) {
        List<Long> told = new ArrayList<>();
        for (int what = 0; what <= 6; what++) {
            told.add((long) x.count(what));
        }
        for (int i = 0; i <= 11; i++) {
            told.add((long) x.trace(i));
        }
        for (int i = 0; i < x.count(0); i++) {
            told.add((long) x.of(i, 0));
            told.add((long) x.of(i, 1));
        }
        for (int i = 0; i < Math.min(6, x.count(1)); i++) {
            for (int what = 10; what <= 13; what++) {
                told.add((long) x.of(i, what));
            }
        }
        for (int shelf = 0; shelf <= 5; shelf++) {
            told.add((long) x.taken(shelf, 0));
            for (int i = 0; i < 6 && shelf >= 2 && shelf <= 4; i++) {
                told.add(x.element(shelf, i));
            }
        }
        told.add((long) x.never());
        told.add((long) x.far(3));
        told.add((long) x.goes(480, -1));
        told.add((long) x.book(2, 480, 1));
        told.add((long) x.car(1, 7, 1));
        told.add((long) x.waits(0, 480));
        change(x, told);
        return told;
    }

    private static void change(ThumbOut x, List<Long> told) {
        for (int a = 0; a < 5; a++) {
            for (int b = a + 1; b < 5; b++) {
                told.add((long) x.walk(10 * a + b, 0));
            }
        }
        x.feed('h');
        told.add((long) x.rule());
        told.add((long) x.goes(480, 1));
        for (int law = x.count(2) - 1; law >= -1; law--) {
            told.add((long) x.force(law));
            told.add((long) x.queue(0, 480, 9));
        }
        for (int what = 0; what < 6; what++) {
            told.add((long) x.set(what, 1));
        }
        for (int i = 0; i < 4; i++) {
            told.add((long) x.redo());
        }
        for (int i = 0; i < 4; i++) {
            told.add((long) x.undo());
            told.add((long) (x.of(0, 0) + 100 * x.of(0, 11) + 10000 * x.of(1, 13)));
        }
        told.add((long) x.body(3));
        told.add((long) x.act(2, 1, 5));
        told.add((long) x.place(11));
        told.add((long) x.road(10, 1, 100));
    }

    /** A call's refusal, and what stands behind it. */
    private static void refused(int full, String call, long due, int... a) {
        ThumbOut x = made(full);
        CHECK.due(call, call(x, call, a), due);
        List<Long> told = told(x);
        List<Long> as = told(made(full));
        CHECK.due("behind " + call + ": how much is told", told.size(), as.size());
        for (int i = 0; i < told.size() && i < as.size(); i++) {
            CHECK.due("behind " + call + ": what is told, " + i, told.get(i), as.get(i));
        }
    }

    /** A call by its name and up to five numbers. */
    private static long call(ThumbOut x, String call, int... a) {
        switch (call.substring(0, call.indexOf(' '))) {
            case "place": return x.place(a[0]);
            case "road": return x.road(a[0], a[1], a[2]);
            case "roads": return x.roads(a[0], a[1], a[2]);
            case "walk": return x.walk(a[0], a[1]);
            case "set": return x.set(a[0], a[1]);
            case "mend": return x.mend(a[0], a[1], a[2]);
            case "of": return x.of(a[0], a[1]);
            case "feed": return x.feed(a[0]);
            case "law": return x.law();
            case "force": return x.force(a[0]);
            case "car": return x.car(a[0], a[1], a[2]);
            case "far": return x.far(a[0]);
            case "waits": return x.waits(a[0], a[1]);
            case "queue": return x.queue(a[0], a[1], a[2]);
            case "here": return x.here(a[0], a[1], a[2]);
            case "goes": return x.goes(a[0], a[1]);
            case "dark": return x.dark(a[0], a[1], a[2]);
            case "sign": return x.sign(a[0], a[1]);
            case "in": return x.in(a[0], a[1]);
            case "walks": return x.walks(a[0], a[1]);
            case "begin": return x.begin(a[0], a[1]);
            case "two": return x.two(a[0], a[1]);
            case "book": return x.book(a[0], a[1], a[2]);
            case "safe": return x.safe(a[0], a[1]);
            case "undo": return x.undo();
            case "redo": return x.redo();
            case "body": return x.body(a[0]);
            case "trace": return x.trace(a[0]);
            case "keep": return x.keep(a[0], a[1]);
            case "row": return x.row(a[0], a[1], a[2]);
            case "put": return x.put(a[0], a[1], a[2]);
            case "element": return x.element(a[0], a[1]);
            case "shift": return x.shift(a[0], a[1], a[2], a[3], a[4]);
            case "taken": return x.taken(a[0], a[1]);
            default: return x.count(a[0]);
        }
    }

    private static void landRefused() {
        int[] rps = {-1, 2, 100, LOW, HIGH};
        for (int rp : rps) {
            refused(PLAIN, "place BAD " + rp, BAD, rp);
        }
        int[][] roads = {{0, 1, 100}, {11, 1, 100}, {5, 1, 100}, {50, 1, 100}, {-1, 1, 100}, {1, 0, 100}, {1, 61, 100},
            {1, 1, 99}, {1, 1, 30100}, {1, 1, -1}};
        for (int[] r : roads) {
            refused(PLAIN, "road BAD " + r[0] + ", " + r[1] + ", " + r[2], BAD, r);
        }
        refused(PLAIN, "roads BAD shelf", BAD, 6, 0, 1);
        refused(PLAIN, "roads BAD n 0", BAD, 3, 0, 0);
        refused(PLAIN, "roads BAD n 16", BAD, 3, 0, 16);
        refused(PLAIN, "roads -12 of a body", -12, 1, 0, 1);
        refused(PLAIN, "roads -12 of ints", -12, 2, 0, 1);
        refused(PLAIN, "roads 0 below 0", 0, 3, -4, 2);
        refused(PLAIN, "roads 0 missing", 0, 0, 0, 2);
        int[][] walks = {{0, 5}, {11, 5}, {5, 5}, {50, 5}, {-1, 5}, {1, -1}, {1, 301}, {24, LOW}, {42, HIGH}};
        for (int[] w : walks) {
            refused(PLAIN, "walk BAD " + w[0] + ", " + w[1], BAD, w);
        }
        int[][] sets = {{-1, 1}, {6, 1}, {0, -1}, {0, 8}, {1, -1}, {1, 1440}, {2, 0}, {2, 3}, {3, -1}, {3, 2}, {4, -2}, {4, 8}};
        for (int[] s : sets) {
            refused(PLAIN, "set VOID " + s[0] + ", " + s[1], VOID, s);
        }
        int[][] mends = {{0, 0, -1}, {0, 0, 10}, {5, 0, 1}, {-1, 0, 1}, {0, 1, 0}, {0, 1, 61}, {5, 1, 1}, {-1, 1, 1}, {0, 2, -1},
            {0, 2, 100}, {5, 2, 1}, {-1, 2, 1}, {0, 3, 1}, {0, -1, 1}};
        for (int[] m : mends) {
            refused(PLAIN, "mend BAD " + m[0] + ", " + m[1] + ", " + m[2], BAD, m);
            refused(UNDONE, "mend BAD, all undone, " + m[0] + ", " + m[1] + ", " + m[2], BAD, m);
        }
        int[][] ofs = {{5, 0}, {-1, 1}, {5, 10}, {0, 2}, {0, 15}};
        for (int[] o : ofs) {
            refused(PLAIN, "of BAD " + o[0] + ", " + o[1], BAD, o);
        }
        refused(UNDONE, "undo STATE none", STATE);
    }

    private static void textsRefused() {
        int[] letters = {-1, 256, LOW, HIGH};
        for (int letter : letters) {
            refused(PLAIN, "feed BAD " + letter, BAD, letter);
            refused(TAPE, "feed BAD full, " + letter, BAD, letter);
        }
        int[] laws = {-2, 2, 4, LOW, HIGH};
        for (int law : laws) {
            refused(PLAIN, "force VOID " + law, VOID, law);
        }
    }

    private static void carsRefused() {
        int[][] cars = {{5, 0, 0}, {-1, 0, 0}, {0, -1, 0}, {0, 960, 0}, {0, 0, 3}, {0, 0, -1}};
        for (int[] c : cars) {
            refused(PLAIN, "car BAD " + c[0] + ", " + c[1] + ", " + c[2], BAD, c);
        }
        refused(PLAIN, "far BAD to", BAD, 5);
        refused(PLAIN, "far BAD from", BAD, 50);
        refused(PLAIN, "waits BAD place", BAD, 5, 0);
        refused(PLAIN, "waits BAD minute", BAD, 0, 1440);
        refused(PLAIN, "queue BAD place", BAD, 5, 0, 1);
        refused(PLAIN, "queue BAD minute", BAD, 0, -1, 1);
        refused(PLAIN, "queue BAD k", BAD, 0, 0, 10);
        refused(PLAIN, "here BAD place", BAD, 50000, 10000, 0);
        refused(PLAIN, "here BAD minute", BAD, 1440, 10000, 0);
        refused(PLAIN, "here BAD n", BAD, 0, 410000, 0);
        refused(PLAIN, "here BAD told", BAD, 0, 11440, 0);
        refused(PLAIN, "here BAD part", BAD, 0, 10000, 2);
    }

    private static void goingRefused() {
        int[] moments = {50000, 1440, -1, LOW, HIGH};
        for (int pm : moments) {
            refused(PLAIN, "goes BAD " + pm, BAD, pm, -1);
            refused(PLAIN, "dark BAD " + pm, BAD, pm, 1, 0);
            refused(PLAIN, "sign VOID " + pm, VOID, pm, 0);
            refused(PLAIN, "walks BAD " + pm, BAD, pm, 0);
            refused(PLAIN, "two BAD " + pm, BAD, pm, 0);
            refused(PLAIN, "safe BAD " + pm, BAD, pm, 1);
        }
        refused(PLAIN, "goes BAD i", BAD, 480, -2);
        refused(PLAIN, "goes BAD ride", BAD, 480, 20);
        refused(PLAIN, "dark BAD n", BAD, 480, 41, 0);
        refused(PLAIN, "dark BAD part", BAD, 480, 1, 2);
        refused(PLAIN, "sign VOID what", VOID, 480, 2);
        refused(PLAIN, "in BAD road", BAD, 5, 0);
        refused(PLAIN, "in BAD car", BAD, 0, 960);
        refused(PLAIN, "walks BAD what", BAD, 480, 2);
        refused(PLAIN, "begin BAD place", BAD, 5, 0);
        refused(PLAIN, "begin BAD what", BAD, 0, 2);
        refused(PLAIN, "two BAD what", BAD, 480, 2);
        refused(PLAIN, "book VOID shelf", VOID, 6, 0, 0);
        refused(PLAIN, "book VOID minute", VOID, 2, 1440, 0);
        refused(PLAIN, "book VOID what", VOID, 2, 0, 2);
        refused(PLAIN, "book -11 nothing", -11, 0, 0, 0);
        refused(PLAIN, "book -12 a body", -12, 1, 0, 0);
        refused(PLAIN, "book -12 shorts", -12, 3, 0, 0);
        refused(PLACES, "book -13 fewer", -13, 2, 0, 0);
        refused(PLAIN, "safe BAD n", BAD, 480, 41);
    }

    private static void actsRefused() {
        int[] kinds = {-1, 8, LOW, HIGH};
        for (int kind : kinds) {
            refused(PLAIN, "body BAD " + kind, BAD, kind);
        }
        int[] places = {-1, 11, 24, LOW, HIGH};
        for (int i : places) {
            refused(PLAIN, "trace BAD " + i, BAD, i);
        }
        int[] whats = {-1, 7, LOW, HIGH};
        for (int what : whats) {
            refused(PLAIN, "count BAD " + what, BAD, what);
        }
    }

    private static void shelvesRefused() {
        refused(PLAIN, "keep BAD shelf", BAD, 6, 0);
        for (int shelf = 0; shelf < 3; shelf++) {
            refused(PLAIN, "keep BAD body", BAD, shelf, 3);
            refused(PLAIN, "keep BAD below -1", BAD, shelf, -2);
            refused(PLAIN, "row BAD sort", BAD, shelf, 5, 1);
            refused(PLAIN, "row BAD n", BAD, shelf, 2, 61);
            refused(PLAIN, "row -14 below 0", -14, shelf, 2, -1);
            refused(PLAIN, "taken BAD kind", BAD, shelf, 8);
        }
        refused(PLAIN, "row BAD shelf", BAD, 6, 2, 1);
        refused(PLAIN, "put BAD shelf", BAD, 6, 0, 1);
        refused(PLAIN, "put -11 nothing", -11, 0, 0, 1);
        refused(PLAIN, "put -12 a body", -12, 1, 0, 1);
        refused(PLAIN, "put -13 below 0", -13, 2, -1, 1);
        refused(PLAIN, "put -13 behind", -13, 2, 5, 1);
        int[][] elements = {{6, 0}, {0, 0}, {1, 0}, {2, -1}, {2, 5}};
        for (int[] e : elements) {
            refused(PLAIN, "element least " + e[0] + ", " + e[1], Long.MIN_VALUE, e);
        }
        refused(PLAIN, "shift BAD from", BAD, 6, 0, 2, 0, 1);
        refused(PLAIN, "shift BAD to", BAD, 2, 0, 6, 0, 1);
        refused(PLAIN, "shift -11 from", -11, 0, 0, 2, 0, 1);
        refused(PLAIN, "shift -11 to", -11, 2, 0, 0, 0, 1);
        refused(PLAIN, "shift -12 from", -12, 1, 0, 2, 0, 1);
        refused(PLAIN, "shift -12 to", -12, 2, 0, 1, 0, 1);
        refused(PLAIN, "shift -12 unlike", -12, 2, 0, 3, 0, 1);
        int[][] away = {{-1, 0, 1}, {0, -1, 1}, {0, 0, -1}, {0, 0, 6}, {3, 0, 3}, {0, 3, 3}};
        for (int[] w : away) {
            refused(PLAIN, "shift -13 " + w[0] + ", " + w[1] + ", " + w[2], -13, 2, w[0], 2, w[1], w[2]);
        }
        refused(PLAIN, "taken BAD shelf", BAD, 6, 0);
        refused(PLAIN, "taken -11 nothing", -11, 0, 0);
        refused(PLAIN, "taken -12 kind", -12, 1, 7);
        refused(PLAIN, "taken -12 row", -12, 2, 0);
    }

    private static void fullRefused() {
        refused(PLACES, "place FULL", FULL, 50);
        refused(PLACES, "place BAD full", BAD, 52);
        refused(ROADS, "road FULL", FULL, 1, 1, 100);
        refused(ROADS, "road BAD full", BAD, 11, 1, 100);
        refused(ROADS, "roads 0 full", 0, 3, 0, 2);
        refused(LAWS, "law FULL ", FULL);
        refused(TAPE, "feed FULL", FULL, '1');
        refused(BODIES, "body FULL", FULL, 0);
        refused(BODIES, "body BAD full", BAD, 8);
    }

    /** What is asked alone changes nothing, too, whatever circumstances are tried for it. */
    private static void asked() {
        asked("of ", 0, 11);
        asked("car ", 0, 3, 2);
        asked("far ", 3);
        asked("waits ", 0, 480);
        asked("queue ", 0, 480, 9);
        asked("here ", 480, 400030, 0);
        asked("goes ", 480, -1);
        asked("goes ", 480, 0);
        asked("dark ", 480, 40, 1);
        asked("sign ", 480, 0);
        asked("sign ", 480, 1);
        asked("walks ", 480, 0);
        asked("begin ", 0, 1);
        asked("two ", 480, 0);
        asked("two ", 480, 1);
        asked("book ", 2, 480, 0);
        asked("safe ", 480, 40);
        asked("trace ", 0);
        asked("element ", 2, 0);
        asked("shift ", 2, 5, 2, 5, 0);
        asked("taken ", 1, 0);
        asked("count ", 4);
        int j = 0;
        while (made(PLAIN).car(0, j, 2) == 0) {
            j++;
        }
        asked("in ", 0, j);
    }

    private static void asked(String call, int... a) {
        long first = call(made(PLAIN), call, a);
        refused(PLAIN, call + "asked", first, a);
        ThumbOut x = made(PLAIN);
        call(x, call, a);
        CHECK.due(call + "asked twice", call(x, call, a), first);
    }

    private static void notAndNever() {
        refused(DONE, "redo STATE none", STATE);
        int j = 0;
        while (made(PLAIN).car(2, j, 2) == 1) {
            j++;
        }
        refused(PLAIN, "in STATE does not stop", STATE, 2, j);
        refused(PLAIN, "waits NOT no roads more", NOT, 0, 1439);
        refused(PLAIN, "queue NOT no roads more", NOT, 0, 1439, 1);
        refused(PLAIN, "goes NOT no roads more", NOT, 1439, -1);
        refused(PLAIN, "sign NOT no roads more", NOT, 1439, 1);
        refused(PLAIN, "walks NOT no roads more", NOT, 41439, 0);
        refused(PLAIN, "two NOT no roads more", NOT, 1439, 1);
        refused(PLAIN, "safe NOT no roads more", NOT, 1439, 1);
    }
}
