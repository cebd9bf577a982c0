/** All calls in all orders with arguments of all kinds: none throws, and what is refused changes no count. */
public final class WildTest {
    private static final Check CHECK = new Check("WildTest");
    private static final int[] ODD = {-1, 0, 1, 2, 7, 8, 9, 16, 40, 41, 50, 60, 61, 99, 100, 255, 256, 1439, 1440, 9999,
        10000, 11439, 70000, 79999, 401439, 30099, 30100, Integer.MAX_VALUE, Integer.MAX_VALUE - 1, Integer.MIN_VALUE,
        Integer.MIN_VALUE + 1, -100, -10000};

    private long state;
    private final ThumbOut x = new ThumbOut();

    private WildTest(int run) {
        state = 104729L * run + 3;
    }

    public static void main(String[] args) {
        for (int run = 0; run < 1000; run++) {
            WildTest t = new WildTest(run);
            if (run % 3 != 0) {
                t.fill();
            }
            for (int i = 0; i < 130; i++) {
                t.call(run, t.draw(38));
            }
        }
        CHECK.end();
    }

    private int draw(int n) {
        state = state * 6364136223846793005L + 1442695040888963407L;
        return (int) ((state >>> 33) % n);
    }

    private int any() {
        int sort = draw(10);
        return sort < 5 ? draw(9) : sort < 6 ? draw(80) : sort < 7 ? 10000 * draw(9) + draw(1500)
            : sort < 9 ? ODD[draw(ODD.length)] : (int) (state >>> 20);
    }

    private void fill() {
        for (int i = 0; i < 8; i++) {
            x.place(10 * draw(10) + draw(2));
        }
        for (int i = 0; i < 15; i++) {
            x.road(10 * draw(8) + draw(8), 1 + draw(60), 100 * (1 + draw(60)) + draw(100));
        }
        Check.law(x, "1000-d");
        x.force(0);
        for (int shelf = 0; shelf < 5; shelf++) {
            x.row(shelf, shelf, 20);
        }
        x.body(7);
        x.keep(5, 0);
    }

    private void call(int run, int which) {
        int what = draw(7);
        int count = x.count(what);
        long answer = 0;
        try {
            answer = answer(which, any(), any(), any());
        } catch (RuntimeException | Error thrown) {
            CHECK.due("run " + run + ": call " + which + " threw " + thrown, 1, 0);
        }
        boolean refused = answer == ThumbOut.BAD || answer == ThumbOut.FULL || answer == ThumbOut.VOID
            || answer <= -11 && answer >= -14;
        if (refused && which != 30) {
            CHECK.due("run " + run + ": count(" + what + ") behind call " + which, x.count(what), count);
        }
    }

    private long answer(int which, int a, int b, int c) {
        switch (which) {
            case 0: return x.place(a);
            case 1: return x.road(a, b, c);
            case 2: return x.roads(a, b, c);
            case 3: return x.walk(a, b);
            case 4: return x.set(a, b) == ThumbOut.VOID ? ThumbOut.VOID : 0;
            case 5: return x.mend(a, b, c);
            case 6: return x.of(a, b);
            case 7: return x.feed(draw(2) == 0 ? "ruhtwsdabm0123456789?;()!-+*/%|&<=>".charAt(draw(35)) : a);
            case 8: return x.law() == ThumbOut.FULL ? ThumbOut.FULL : 0;
            case 9: return x.rule() == 1 ? 1 : 0;
            case 10: return x.force(a) == ThumbOut.VOID ? ThumbOut.VOID : 0;
            case 11: return x.car(a, b, c);
            case 12: return x.far(a);
            case 13: return x.waits(a, b);
            case 14: return x.queue(a, b, c);
            case 15: return x.here(a, b, c);
            case 16: return x.goes(a, b);
            case 17: return x.dark(a, b, c);
            case 18: return x.sign(a, b);
            case 19: return x.in(a, b);
            case 20: return x.walks(a, b);
            case 21: return x.begin(a, b);
            case 22: return x.two(a, b);
            case 23: return x.book(a, b, c);
            case 24: return x.safe(a, b);
            case 25: return x.never();
            case 26: return x.undo() == ThumbOut.STATE ? ThumbOut.BAD : 0;
            case 27: return x.redo() == ThumbOut.STATE ? ThumbOut.BAD : 0;
            case 28: return x.body(a);
            case 29: return x.trace(a);
            case 30: return x.act(a, b, c);
            case 31: return x.keep(a, b);
            case 32: return x.row(a, b, c);
            case 33: return x.put(a, b, (long) c << draw(40));
            case 34: return x.element(a, b) == Long.MIN_VALUE ? ThumbOut.BAD : 0;
            case 35: return x.shift(a, b, c, draw(9), any());
            case 36: return x.taken(a, b);
            default: return x.count(a);
        }
    }
}
