/** Runs of many calls, drawn by a fixed row of numbers, each answer beside the one of the model. */
public final class ModelTest {
    private static final Check CHECK = new Check("ModelTest");
    private static final int RUNS = 150;

    /** An object is asked no further than this: a text and what asks for it are at most 122 calls more. */
    private static final int CALLS = 512 - 122;

    private long state;
    private final ThumbOut x = new ThumbOut();
    private final Model m = new Model();
    private final int run;
    private int calls;

    private ModelTest(int run) {
        this.run = run;
        state = 7919L * run + 17;
    }

    public static void main(String[] args) {
        texts();
        for (int run = 0; run < RUNS; run++) {
            new ModelTest(run).goOn();
        }
        CHECK.end();
    }

    /** A number from 0 on below n. */
    private int draw(int n) {
        state = state * 6364136223846793005L + 1442695040888963407L;
        return (int) ((state >>> 33) % n);
    }

    private boolean often(int percent) {
        return draw(100) < percent;
    }

    private void due(String call, long got, long want) {
        calls++;
        CHECK.due("run " + run + ": " + call, got, want);
    }

    // ---- texts

    private String operand(int open) {
        int sort = draw(open < 6 ? 9 : 6);
        String inside = sort < 6 ? "" : sort == 8 ? expression(open + 1, 2) : operand(open + 1);
        switch (sort) {
            case 0:
            case 1:
                return Integer.toString(draw(often(50) ? 10 : often(50) ? 1000 : 10000));
            case 6:
                return "!" + inside;
            case 7:
                return "-" + inside;
            case 8:
                return "(" + inside + ")";
            default:
                return "ruhtwsdabm".charAt(draw(10)) + "";
        }
    }

    private String expression(int open, int most) {
        StringBuilder e = new StringBuilder(operand(open));
        int more = draw(most + 1);
        boolean compared = false;
        for (int i = 0; i < more; i++) {
            char sign = "|&<=>+-*/%*+".charAt(draw(12));
            boolean comparing = sign == '<' || sign == '=' || sign == '>';
            if (comparing && compared) {
                sign = '&';
            }
            compared = comparing || compared && sign != '|' && sign != '&';
            e.append(sign).append(operand(open));
        }
        return e.toString();
    }

    private String text() {
        StringBuilder t = new StringBuilder();
        int lines = 1 + draw(3);
        for (int i = 0; i < lines; i++) {
            t.append(i > 0 ? ";" : "").append(often(50) ? expression(0, 3) + "?" : "").append(expression(0, 4));
        }
        return t.length() > 118 ? "r*90" : t.toString();
    }

    private String spoilt(String text) {
        int at = draw(text.length());
        char c = often(90) ? "ruhq1234567890?;()!-+*/%|&<=> ".charAt(draw(30)) : (char) draw(256);
        String tail = text.substring(often(50) ? at + 1 : at);
        return text.substring(0, at) + (often(80) ? "" + c : "") + tail;
    }

    /** Faults and values alone: a law's value is told by 1000 if it is as the model says. */
    private static void texts() {
        for (int i = 0; i < 8000; i++) {
            ModelTest t = new ModelTest(100000 + i);
            String text = t.text();
            t.due("the text is one: " + text, Model.fault(text), -1);
            text = t.often(60) ? t.spoilt(text) : text;
            int fault = Model.fault(text);
            t.due("law of " + text, Check.law(t.x, text), fault < 0 ? 0 : -100 - fault);
            t.due("rule of " + text, Check.rule(t.x, text), fault < 0 ? 1 : -100 - fault);
        }
    }

    // ---- arguments, most of them as they may be

    private int odd(int value) {
        if (!often(3)) {
            return value;
        }
        int[] odd = {-1, Integer.MIN_VALUE, Integer.MAX_VALUE, value + 1, -value, value * 10, 1440, 10000};
        return odd[draw(odd.length)];
    }

    private int ab() {
        int n = Math.max(1, m.places.size());
        return odd(often(95) ? 10 * draw(n) + draw(n) : draw(100));
    }

    private int somePlace() {
        return odd(draw(Math.max(1, m.places.size())));
    }

    private int someRoad() {
        return odd(draw(Math.max(1, m.roads.size())));
    }

    private int minute() {
        return often(60) ? draw(700) : draw(1440);
    }

    private int pm() {
        return odd(10000 * draw(Math.max(1, m.places.size())) + minute());
    }

    private int seeds() {
        return odd(1 + draw(often(90) ? 6 : 40));
    }

    private int someCar(int road) {
        int cars = road >= 0 && road < m.roads.size() ? m.of(road, 14) : 5;
        return odd(draw(cars + 1));
    }

    // ---- calls

    private void goOn() {
        int n = 1 + draw(8);
        for (int i = 0; i < n; i++) {
            addPlace();
        }
        n = draw(17);
        for (int i = 0; i < n; i++) {
            addRoad();
        }
        // by these all kinds of laws come to be in force, also such by which many cars stop
        if (often(30) && !m.roads.isEmpty()) {
            lawOnTheEdge();
        } else if (often(70)) {
            text(true, often(50) ? "1000-d*" + draw(9) : often(50) ? "r*" + (20 + draw(90)) + "-d" : text());
            force(0);
        }
        if (often(40)) {
            text(false, often(50) ? "a<b&d<" + draw(100) + "|m>" + draw(100) : often(40) ? "1" : text());
        }
        while (calls < CALLS) {
            if (often(55)) {
                ask(draw(18));
            } else {
                change(draw(13));
            }
        }
    }

    /** A law by which a car stops by this seed, but not by one of the next few. */
    private void lawOnTheEdge() {
        int road = draw(m.roads.size());
        int j = draw(m.of(road, 14));
        long lost = (j + 1) * 1103515245L + (road + 1) * 12345L & 255;
        int seed = (int) (255 - lost - draw(4));
        due("set(5, " + seed + ")", x.set(5, seed), m.set(5, seed));
        text(true, "" + (m.car(road, j, 1) + 1));
        force(0);
    }

    private void addPlace() {
        int rp = odd(10 * draw(10) + draw(2));
        due("place(" + rp + ")", x.place(rp), m.place(rp));
    }

    private void addRoad() {
        int ab = ab();
        int flow = odd(often(70) ? 1 + draw(12) : 1 + draw(60));
        int ld = odd(100 * (1 + draw(often(80) ? 60 : 300)) + draw(100));
        due("road(" + ab + ", " + flow + ", " + ld + ")", x.road(ab, flow, ld), m.road(ab, flow, ld));
    }

    private void force(int law) {
        due("force(" + law + ")", x.force(law), m.force(law));
    }

    private void text(boolean law, String text) {
        for (int i = 0; i < text.length(); i++) {
            due("feed(" + (int) text.charAt(i) + ")", x.feed(text.charAt(i)), m.feed(text.charAt(i)));
        }
        due((law ? "law of " : "rule of ") + text, law ? x.law() : x.rule(), law ? m.law() : m.rule());
    }

    private void rowRoads() {
        int size = draw(30);
        long[] row = new long[size];
        for (int i = 0; i < size; i++) {
            int sort = i % 4;
            row[i] = (short) (sort == 0 ? ab() : sort == 1 ? 1 + draw(20) : sort == 2 ? 1 + draw(90) : draw(100));
        }
        Check.row(x, 1, 1, row);
        calls += size + 1;
        int at = often(80) ? 4 * draw(3) : draw(31) - 1;
        int n = 1 + draw(5);
        int came = 0;
        for (int i = at; at >= 0 && i + 4 <= size && came < n; i += 4) {
            if (m.road((int) row[i], (int) row[i + 1], (int) row[i + 2], (int) row[i + 3]) < 0) {
                break;
            }
            came++;
        }
        due("roads(1, " + at + ", " + n + ") of " + java.util.Arrays.toString(row), x.roads(1, at, n), came);
    }

    private void change(int which) {
        int a;
        int b;
        int c;
        switch (which) {
            case 0:
                addPlace();
                break;
            case 1:
                addRoad();
                break;
            case 2:
                a = ab();
                b = odd(often(80) ? draw(60) : draw(301));
                due("walk(" + a + ", " + b + ")", x.walk(a, b), m.walk(a, b));
                break;
            case 3:
            case 4:
                a = odd(draw(6));
                b = odd(a == 5 ? draw(1000) : a == 1 ? draw(1440) : a == 0 || a == 4 ? draw(9) - 1 : draw(3));
                due("set(" + a + ", " + b + ")", x.set(a, b), m.set(a, b));
                break;
            case 5:
            case 6:
                b = odd(draw(3));
                a = b == 0 ? somePlace() : someRoad();
                c = odd(b == 0 ? draw(10) : b == 1 ? 1 + draw(20) : draw(100));
                due("mend(" + a + ", " + b + ", " + c + ")", x.mend(a, b, c), m.mend(a, b, c));
                break;
            case 7:
                if (often(15)) {
                    String text = text();
                    text(often(60), often(30) ? spoilt(text) : text);
                }
                break;
            case 8:
                a = odd(draw(5) - 1);
                force(a);
                break;
            case 9:
            case 10:
                due("undo()", x.undo(), m.undo());
                break;
            case 11:
                due("redo()", x.redo(), m.redo());
                break;
            default:
                if (often(20)) {
                    rowRoads();
                }
                break;
        }
    }

    private void ask(int which) {
        int pm = pm();
        int what = odd(draw(2));
        int n;
        switch (which) {
            case 0:
                int kind = often(20) ? draw(3) : 10 + draw(6);
                int number = kind < 2 ? somePlace() : someRoad();
                due("of(" + number + ", " + kind + ")", x.of(number, kind), m.of(number, kind));
                break;
            case 1:
            case 2:
                int road = someRoad();
                int j = someCar(road);
                int w = odd(draw(3));
                due("car(" + road + ", " + j + ", " + w + ")", x.car(road, j, w), m.car(road, j, w));
                due("in(" + road + ", " + j + ")", x.in(road, j), m.in(road, j));
                break;
            case 3:
                int ab = ab();
                due("far(" + ab + ")", x.far(ab), m.far(ab));
                break;
            case 4:
            case 5:
                int place = somePlace();
                int minute = odd(minute());
                int k = odd(1 + draw(9));
                due("waits(" + place + ", " + minute + ")", x.waits(place, minute), m.waits(place, minute));
                due("queue(" + place + ", " + minute + ", " + k + ")", x.queue(place, minute, k), m.queue(place, minute, k));
                break;
            case 6:
                int nm = odd(10000 * (1 + draw(6)) + draw(often(60) ? 90 : 1440));
                due("here(" + pm + ", " + nm + ", " + what + ")", x.here(pm, nm, what), m.here(pm, nm, what));
                break;
            case 7:
            case 8:
                int i = odd(draw(4) - 1);
                due("goes(" + pm + ", -1)", x.goes(pm, -1), m.goes(pm, -1));
                due("goes(" + pm + ", " + i + ")", x.goes(pm, i), m.goes(pm, i));
                break;
            case 9:
                n = seeds();
                due("dark(" + pm + ", " + n + ", " + what + ")", x.dark(pm, n, what), m.dark(pm, n, what));
                break;
            case 10:
                due("sign(" + pm + ", " + what + ")", x.sign(pm, what), m.sign(pm, what));
                break;
            case 11:
                due("walks(" + pm + ", " + what + ")", x.walks(pm, what), m.walks(pm, what));
                break;
            case 12:
                due("begin(" + pm / 10000 + ", " + what + ")", x.begin(pm / 10000, what), m.begin(pm / 10000, what));
                break;
            case 13:
                due("two(" + pm + ", " + what + ")", x.two(pm, what), m.two(pm, what));
                break;
            case 14:
                n = seeds();
                if (n < 10 || often(10)) {
                    due("safe(" + pm + ", " + n + ")", x.safe(pm, n), m.safe(pm, n));
                }
                break;
            case 15:
                due("never()", x.never(), m.never());
                break;
            case 16:
                askBook();
                break;
            default:
                askCounts();
                break;
        }
    }

    private void askBook() {
        int size = m.places.size() + draw(3);
        int[] told = new int[size];
        long[] row = new long[size];
        for (int i = 0; i < size; i++) {
            told[i] = often(5) ? draw(1000) - 500 : often(5) ? 1440 + draw(50) : draw(300);
            row[i] = told[i];
        }
        Check.row(x, 0, 2, row);
        calls += size + 1;
        int minute = minute();
        due("book(0, " + minute + ", 0)", x.book(0, minute, 0), m.book(told, minute, 0));
        due("book(0, " + minute + ", 1)", x.book(0, minute, 1), m.book(told, minute, 1));
    }

    private void askCounts() {
        due("count(0)", x.count(0), m.places.size());
        due("count(1)", x.count(1), m.roads.size());
        due("count(2)", x.count(2), m.laws.size());
        due("count(3)", x.count(3), m.tape.length());
        due("count(4)", x.count(4), m.done.size());
    }
}
