import java.util.ArrayList;
import java.util.List;

/** Promises 30 to 32: bodies, acts, the trace; against classes written as the document tells them. */
public final class ActsTest {
    private static final Check CHECK = new Check("ActsTest");
    private static final List<Integer> RAN = new ArrayList<>();

    interface Stands {
        int n();

        default int stands(int x) {
            RAN.add(1);
            return x + n();
        }
    }

    interface Chooses {
        int stops(int x);

        int rides(int x);

        default int chooses(int x) {
            RAN.add(2);
            return stops(x) - rides(1);
        }
    }

    static class Wait implements Stands, Chooses {
        int n;

        public int n() {
            return n;
        }

        public int stops(int x) {
            RAN.add(10);
            return stands(x) * 2;
        }

        public int rides(int x) {
            RAN.add(11);
            return x ^ n;
        }
    }

    static class Good extends Wait {
        public int stands(int x) {
            RAN.add(20);
            return super.stands(x) + 3;
        }
    }

    static class Bad extends Wait {
        public int stops(int x) {
            RAN.add(30);
            return -super.stops(x);
        }
    }

    static class Asking extends Good {
        public int rides(int x) {
            RAN.add(40);
            return super.rides(x) * 3;
        }

        public int stops(int x) {
            RAN.add(41);
            return super.stops(x + 1);
        }
    }

    static class Shared extends Wait {
        public int chooses(int x) {
            RAN.add(50);
            return super.chooses(x) ^ 5;
        }
    }

    static class Night extends Bad {
        public int rides(int x) {
            RAN.add(60);
            return super.rides(x) - stands(2);
        }

        public int chooses(int x) {
            RAN.add(61);
            return super.chooses(x) + 1;
        }
    }

    static class Refused extends Shared {
        public int stands(int x) {
            RAN.add(70);
            return super.stands(x) * 2;
        }
    }

    static class Walked extends Asking {
        public int stops(int x) {
            RAN.add(80);
            return super.stops(x) + rides(2);
        }

        public int stands(int x) {
            RAN.add(81);
            return super.stands(x) - 1;
        }
    }

    static Wait made(int kind) {
        switch (kind) {
            case 0: return new Wait();
            case 1: return new Good();
            case 2: return new Bad();
            case 3: return new Asking();
            case 4: return new Shared();
            case 5: return new Night();
            case 6: return new Refused();
            default: return new Walked();
        }
    }

    private static int acted(Wait body, int act, int x) {
        RAN.clear();
        switch (act) {
            case 0: return body.stands(x);
            case 1: return body.stops(x);
            case 2: return body.rides(x);
            default: return body.chooses(x);
        }
    }

    public static void main(String[] args) {
        bodies();
        acts();
        noActs();
        CHECK.end();
    }

    private static void due(String call, long got, long want) {
        CHECK.due(call, got, want);
    }

    private static void bodies() {
        ThumbOut x = new ThumbOut();
        int[] bad = {-1, 8, Integer.MIN_VALUE, Integer.MAX_VALUE};
        for (int i = 0; i < 50; i++) {
            due("30: body", x.body(i * 3 % 8), i);
            due("30: count(5)", x.count(5), i + 1);
            for (int kind : bad) {
                due("30: body(" + kind + ")", x.body(kind), ThumbOut.BAD);
            }
        }
        due("30: full", x.body(0), ThumbOut.FULL);
        for (int kind : bad) {
            due("30: BAD ahead of FULL", x.body(kind), ThumbOut.BAD);
        }
        due("30: count(5)", x.count(5), 50);
        x.keep(0, 49);
        due("30: the last one's kind", x.taken(0, 0), 49 * 3 % 8);
    }

    private static void acts() {
        int[] values = {0, 1, -1, 5, 1000003, Integer.MAX_VALUE, Integer.MIN_VALUE};
        for (int number = 0; number < 50; number++) {
            ThumbOut x = new ThumbOut();
            for (int i = 0; i <= number; i++) {
                x.body((i + i / 8) % 8);
            }
            int kind = (number + number / 8) % 8;
            Wait body = made(kind);
            body.n = number;
            for (int act = 0; act < 4; act++) {
                int v = values[(number * 4 + act) % values.length];
                String call = "31: act(" + number + ", " + act + ", " + v + ") of kind " + kind;
                due(call, x.act(number, act, v), acted(body, act, v));
                due("39: count(6) of " + call, x.count(6), RAN.size());
                for (int i = 0; i < RAN.size(); i++) {
                    due("32: trace(" + i + ") of " + call, x.trace(i), RAN.get(i));
                }
                due("32: trace ends, " + call, x.trace(RAN.size()), ThumbOut.BAD);
                due("32: trace(-1)", x.trace(-1), ThumbOut.BAD);
                due("32: trace(24)", x.trace(24), ThumbOut.BAD);
            }
        }
    }

    private static void noActs() {
        ThumbOut x = new ThumbOut();
        x.body(7);
        int[][] bad = {{1, 0}, {-1, 0}, {50, 0}, {0, 4}, {0, -1}, {Integer.MAX_VALUE, 0}, {Integer.MIN_VALUE, 0},
            {0, Integer.MAX_VALUE}, {0, Integer.MIN_VALUE}};
        for (int[] b : bad) {
            due("31: chooses", x.act(0, 3, 0), acted(made(7), 3, 0));
            due("32: a trace", x.trace(0), 2);
            due("31: act(" + b[0] + ", " + b[1] + ", 5)", x.act(b[0], b[1], 5), 0);
            due("31: no trace then", x.trace(0), ThumbOut.BAD);
            due("31: none ran", x.count(6), 0);
        }
        due("32: trace(MAX)", x.trace(Integer.MAX_VALUE), ThumbOut.BAD);
        due("32: trace(MIN)", x.trace(Integer.MIN_VALUE), ThumbOut.BAD);
    }
}
