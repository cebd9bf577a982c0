import java.util.ArrayList;
import java.util.List;
import java.util.function.IntPredicate;

/**
 * What the document says of the land, the texts and the going, written a second time and otherwise:
 * minute by minute, road by road, texts worked out from their letters anew each time.
 */
final class Model {
    static final int LATE = 1 << 30;

    final List<int[]> places = new ArrayList<>();
    final List<int[]> roads = new ArrayList<>();
    final int[][] foot = new int[8][8];
    final int[] set = {0, 1200, 1, 0, -1, 0};
    final List<String> laws = new ArrayList<>();
    String tape = "";
    String rule;
    int inForce = -1;
    final List<int[]> done = new ArrayList<>();
    final List<int[]> undone = new ArrayList<>();
    private final List<Integer> rides = new ArrayList<>();
    private int[][] far = new int[0][0];

    // ---- places, roads

    int place(int rp) {
        if (rp < 0 || rp > 91 || rp % 10 > 1) {
            return -1;
        }
        if (places.size() == 8) {
            return -3;
        }
        places.add(new int[] {rp / 10, rp % 10});
        measure();
        return places.size() - 1;
    }

    private boolean pair(int ab) {
        return ab >= 0 && ab / 10 < places.size() && ab % 10 < places.size();
    }

    private static boolean within(int v, int least, int most) {
        return v >= least && v <= most;
    }

    int road(int ab, int flow, int ld) {
        return ld < 0 ? -1 : road(ab, flow, ld / 100, ld % 100);
    }

    int road(int ab, int flow, int minutes, int danger) {
        if (!pair(ab) || ab / 10 == ab % 10 || !within(flow, 1, 60) || !within(minutes, 1, 300) || !within(danger, 0, 99)) {
            return -1;
        }
        if (roads.size() == 16) {
            return -3;
        }
        roads.add(new int[] {ab / 10, ab % 10, flow, minutes, danger});
        measure();
        return roads.size() - 1;
    }

    int walk(int ab, int v) {
        if (!pair(ab) || ab / 10 == ab % 10 || !within(v, 0, 300)) {
            return -1;
        }
        int was = foot[ab / 10][ab % 10];
        foot[ab / 10][ab % 10] = v;
        foot[ab % 10][ab / 10] = v;
        return was;
    }

    int set(int what, int v) {
        int[] least = {0, 0, 1, 0, -1, Integer.MIN_VALUE};
        int[] most = {7, 1439, 2, 1, 7, Integer.MAX_VALUE};
        if (!within(what, 0, 5) || !within(v, least[what], most[what])) {
            return -2000000000;
        }
        int was = set[what];
        set[what] = v;
        return was;
    }

    private boolean isPlace(int p) {
        return within(p, 0, places.size() - 1);
    }

    private boolean isRoad(int r) {
        return within(r, 0, roads.size() - 1);
    }

    int mend(int number, int what, int v) {
        boolean good = what == 0 ? isPlace(number) && within(v, 0, 9)
            : what == 1 ? isRoad(number) && within(v, 1, 60)
            : what == 2 && isRoad(number) && within(v, 0, 99);
        if (!good) {
            return -1;
        }
        int was = change(number, what, v);
        if (was == v) {
            return was;
        }
        done.add(new int[] {number, what, was, v});
        if (done.size() > 40) {
            done.remove(0);
        }
        undone.clear();
        return was;
    }

    private int change(int number, int what, int v) {
        int[] row = what == 0 ? places.get(number) : roads.get(number);
        int at = what == 0 ? 0 : what == 1 ? 2 : 4;
        int was = row[at];
        row[at] = v;
        return was;
    }

    int undo() {
        if (done.isEmpty()) {
            return -5;
        }
        int[] c = done.remove(done.size() - 1);
        undone.add(c);
        change(c[0], c[1], c[2]);
        return done.size();
    }

    int redo() {
        if (undone.isEmpty()) {
            return -5;
        }
        int[] c = undone.remove(undone.size() - 1);
        done.add(c);
        change(c[0], c[1], c[3]);
        return undone.size();
    }

    int of(int number, int what) {
        if (what == 0 || what == 1) {
            return isPlace(number) ? places.get(number)[what] : -1;
        }
        if (!isRoad(number) || !within(what, 10, 14)) {
            return -1;
        }
        int[] r = roads.get(number);
        int cars = 0;
        while (60 * cars / r[2] <= 1439) {
            cars++;
        }
        return new int[] {10 * r[0] + r[1], r[2], r[3], r[4], cars}[what - 10];
    }

    private void measure() {
        int n = places.size();
        far = new int[n][n];
        for (int a = 0; a < n; a++) {
            for (int b = 0; b < n; b++) {
                far[a][b] = a == b ? 0 : 9999;
            }
        }
        for (int[] r : roads) {
            far[r[0]][r[1]] = Math.min(far[r[0]][r[1]], r[3]);
        }
        for (int by = 0; by < n; by++) {
            for (int a = 0; a < n; a++) {
                for (int b = 0; b < n; b++) {
                    far[a][b] = Math.min(far[a][b], far[a][by] + far[by][b]);
                }
            }
        }
    }

    int far(int ab) {
        return pair(ab) ? far[ab / 10][ab % 10] : -1;
    }

    private int goalFrom(int place) {
        return isPlace(set[0]) ? far[place][set[0]] : 9999;
    }

    int never() {
        int bits = 0;
        for (int p = 0; p < places.size(); p++) {
            bits |= goalFrom(p) == 9999 ? 1 << p : 0;
        }
        return bits;
    }

    // ---- texts

    int feed(int letter) {
        if (!within(letter, 0, 255)) {
            return -1;
        }
        if (tape.length() == 120) {
            return -3;
        }
        tape += (char) letter;
        return tape.length();
    }

    int law() {
        if (laws.size() == 4) {
            return -3;
        }
        String text = tape;
        tape = "";
        int fault = fault(text);
        if (fault >= 0) {
            return -100 - fault;
        }
        laws.add(text);
        return laws.size() - 1;
    }

    int rule() {
        String text = tape;
        tape = "";
        int fault = fault(text);
        if (fault >= 0) {
            return -100 - fault;
        }
        rule = text;
        return 1;
    }

    int force(int law) {
        if (!within(law, -1, laws.size() - 1)) {
            return -2000000000;
        }
        int was = inForce;
        inForce = law;
        return was;
    }

    /** Goes along the letters with what is open; -1: none. */
    static int fault(String text) {
        String open = "";
        boolean operand = true;
        boolean compared = false;
        boolean first = true;
        String comparedOutside = "";
        int digits = 0;
        for (int i = 0; i < text.length(); i++) {
            char c = text.charAt(i);
            boolean digit = c >= '0' && c <= '9';
            if (operand) {
                if (digit || "ruhtwsdabm".indexOf(c) >= 0) {
                    digits = digit ? 1 : 9;
                    operand = false;
                    open = closed(open);
                } else if ((c == '(' || c == '!' || c == '-') && open.length() < 6) {
                    open += c;
                    if (c == '(') {
                        comparedOutside += compared ? '1' : '0';
                        compared = false;
                    }
                } else {
                    return i;
                }
                continue;
            }
            if (digit && digits < 4) {
                digits++;
                continue;
            }
            digits = 9;
            if (c == ')' && open.endsWith("(")) {
                open = closed(open.substring(0, open.length() - 1));
                compared = comparedOutside.endsWith("1");
                comparedOutside = comparedOutside.substring(0, comparedOutside.length() - 1);
                continue;
            }
            boolean comparing = c == '<' || c == '=' || c == '>';
            if (comparing && compared || (c == '?' || c == ';') && !open.isEmpty() || c == '?' && !first
                || "|&<=>+-*/%?;".indexOf(c) < 0) {
                return i;
            }
            compared = comparing || compared && "+-*/%".indexOf(c) >= 0;
            first = c == ';' || first && c != '?';
            operand = true;
        }
        return operand || !open.isEmpty() ? text.length() : -1;
    }

    private static String closed(String open) {
        String left = open;
        while (left.endsWith("!") || left.endsWith("-")) {
            left = left.substring(0, left.length() - 1);
        }
        return left;
    }

    static int worth(String text, int[] facts) {
        for (String line : text.split(";")) {
            int asks = line.indexOf('?');
            if (asks < 0 || part(line.substring(0, asks), facts) != 0) {
                return part(line.substring(asks + 1), facts);
            }
        }
        return 0;
    }

    /** Parts a text at the last of the loosest signs that stand between operands outside brackets. */
    private static int part(String e, int[] facts) {
        String[] levels = {"|", "&", "<=>", "+-", "*/%"};
        for (String signs : levels) {
            int open = 0;
            for (int i = e.length() - 1; i > 0; i--) {
                char c = e.charAt(i);
                open += c == ')' ? 1 : c == '(' ? -1 : 0;
                boolean between = "(!-+*/%<=>&|".indexOf(e.charAt(i - 1)) < 0;
                if (open == 0 && between && signs.indexOf(c) >= 0) {
                    return join(c, part(e.substring(0, i), facts), part(e.substring(i + 1), facts));
                }
            }
        }
        char c = e.charAt(0);
        if (c == '!') {
            return part(e.substring(1), facts) == 0 ? 1 : 0;
        }
        if (c == '-') {
            return -part(e.substring(1), facts);
        }
        if (c == '(') {
            return part(e.substring(1, e.length() - 1), facts);
        }
        return c >= '0' && c <= '9' ? Integer.parseInt(e) : facts["ruhtwsdabm".indexOf(c)];
    }

    private static int join(char c, int a, int b) {
        boolean holds = c == '|' ? a != 0 || b != 0 : c == '&' ? a != 0 && b != 0 : c == '<' ? a < b
            : c == '=' ? a == b : c == '>' && a > b;
        if (holds) {
            return 1;
        }
        return c == '+' ? a + b : c == '-' ? a - b : c == '*' ? a * b : b == 0 ? 0 : c == '/' ? a / b
            : c == '%' ? a % b : 0;
    }

    // ---- cars

    private int[] facts(int road, int minute) {
        int[] r = roads.get(road);
        int[] p = places.get(r[0]);
        return new int[] {p[0], p[1], minute / 60, set[2], set[3], r[1] == set[4] ? 1 : 0, r[4], 0, 0, 0};
    }

    private int draw(int road, int j) {
        long sum = (j + 1) * 1103515245L + (road + 1) * 12345L + set[5];
        return (int) ((sum & 0xffffffffL) / 256 % 1000);
    }

    /** The car that passes in a minute; -1: none. */
    private int carAt(int road, int minute) {
        int flow = roads.get(road)[2];
        for (int j = Math.max(0, minute * flow / 60 - 1); 60 * j / flow <= minute; j++) {
            if (60 * j / flow == minute) {
                return j;
            }
        }
        return -1;
    }

    private boolean stops(int road, int j, int minute) {
        int[] f = facts(road, minute);
        int bar = inForce >= 0 ? worth(laws.get(inForce), f) : (10 * f[0] + 10) / f[3] - 5 * f[4] + 20 * f[5];
        return draw(road, j) < bar;
    }

    private boolean getsIn(int road, int minute, int waited) {
        int[] r = roads.get(road);
        if (rule == null) {
            return goalFrom(r[1]) < goalFrom(r[0]);
        }
        int[] f = facts(road, minute);
        f[7] = goalFrom(r[1]);
        f[8] = goalFrom(r[0]);
        f[9] = waited;
        return worth(rule, f) != 0;
    }

    int car(int road, int j, int what) {
        if (!isRoad(road) || !within(what, 0, 2) || j < 0 || j >= of(road, 14)) {
            return -1;
        }
        int minute = 60 * j / roads.get(road)[2];
        return what == 0 ? minute : what == 1 ? draw(road, j) : stops(road, j, minute) ? 1 : 0;
    }

    private int kth(int place, int since, int k) {
        int had = 0;
        for (int minute = since; minute < 1440; minute++) {
            for (int road = 0; road < roads.size(); road++) {
                int j = roads.get(road)[0] == place ? carAt(road, minute) : -1;
                had += j >= 0 && stops(road, j, minute) ? 1 : 0;
                if (had == k) {
                    return minute;
                }
            }
        }
        return LATE;
    }

    int waits(int place, int minute) {
        if (!isPlace(place) || !within(minute, 0, 1439)) {
            return -1;
        }
        int stop = kth(place, minute, 1);
        return stop == LATE ? -2 : stop - minute;
    }

    int queue(int place, int minute, int k) {
        if (!isPlace(place) || !within(minute, 0, 1439) || !within(k, 1, 9)) {
            return -1;
        }
        return not(kth(place, minute, k));
    }

    private static int not(int minute) {
        return minute == LATE ? -2 : minute;
    }

    private boolean moment(int pm) {
        return pm >= 0 && isPlace(pm / 10000) && pm % 10000 < 1440;
    }

    private int share(int n, int part, IntPredicate hit) {
        int seed = set[5];
        int hits = 0;
        for (int s = 0; s < n; s++) {
            set[5] = seed + s;
            hits += hit.test(s) ? 1 : 0;
        }
        set[5] = seed;
        int above = hits;
        int below = n;
        for (int c = n; c > 1; c--) {
            if (above % c == 0 && below % c == 0) {
                above /= c;
                below /= c;
            }
        }
        return part == 0 ? above : below;
    }

    int here(int pm, int nm, int part) {
        if (!moment(pm) || nm < 0 || !within(nm / 10000, 1, 40) || nm % 10000 > 1439 || !within(part, 0, 1)) {
            return -1;
        }
        return share(nm / 10000, part, s -> kth(pm / 10000, pm % 10000, 1) <= pm % 10000 + nm % 10000);
    }

    // ---- going

    private int arrives(int start, int since, int mostDanger) {
        int place = start;
        int minute = since;
        rides.clear();
        while (true) {
            if (place == set[0]) {
                return minute;
            }
            int by = -1;
            int when = minute;
            while (rides.size() < 20 && when < 1440 && by < 0) {
                for (int road = 0; road < roads.size() && by < 0; road++) {
                    int j = roads.get(road)[0] == place ? carAt(road, when) : -1;
                    if (j >= 0 && roads.get(road)[4] <= mostDanger && stops(road, j, when)
                        && getsIn(road, when, when - minute)) {
                        by = road;
                    }
                }
                when += by < 0 ? 1 : 0;
            }
            if (by < 0) {
                return LATE;
            }
            rides.add(by);
            place = roads.get(by)[1];
            minute = when + roads.get(by)[3];
        }
    }

    private int arrives(int pm) {
        return arrives(pm / 10000, pm % 10000, 99);
    }

    int goes(int pm, int i) {
        if (!moment(pm) || i < -1) {
            return -1;
        }
        int when = arrives(pm);
        return i == -1 ? not(when) : i < rides.size() ? rides.get(i) : -1;
    }

    int dark(int pm, int n, int part) {
        if (!moment(pm) || !within(n, 1, 40) || !within(part, 0, 1)) {
            return -1;
        }
        return share(n, part, s -> arrives(pm) <= set[1]);
    }

    int sign(int pm, int what) {
        if (!moment(pm) || !within(what, 0, 1)) {
            return -2000000000;
        }
        int was = set[4];
        int best = -1;
        int earliest = LATE;
        for (int s = -1; s < places.size(); s++) {
            set[4] = s;
            int when = arrives(pm);
            if (when < earliest) {
                best = s;
                earliest = when;
            }
        }
        set[4] = was;
        return what == 0 ? best : not(earliest);
    }

    int in(int road, int j) {
        int stops = car(road, j, 2);
        if (stops < 1) {
            return stops < 0 ? -1 : -5;
        }
        int[] r = roads.get(road);
        int minute = 60 * j / r[2];
        int rides = arrives(r[1], minute + r[3], 99);
        int waits = arrives(r[0], minute + 1, 99);
        return rides < LATE && rides <= waits ? 1 : 0;
    }

    int walks(int pm, int what) {
        if (!moment(pm) || !within(what, 0, 1)) {
            return -1;
        }
        int best = -2;
        int earliest = LATE;
        for (int p = 0; p < places.size(); p++) {
            int minutes = foot[pm / 10000][p];
            int when = minutes > 0 || p == pm / 10000 ? arrives(p, pm % 10000 + minutes, 99) : LATE;
            if (when < earliest) {
                best = p;
                earliest = when;
            }
        }
        return what == 0 ? best : not(earliest);
    }

    int begin(int place, int what) {
        if (!isPlace(place) || !within(what, 0, 1)) {
            return -1;
        }
        int best = -2;
        int least = LATE;
        for (int h = 0; h < 24; h++) {
            int when = arrives(place, 60 * h, 99);
            if (when < LATE && when - 60 * h < least) {
                best = h;
                least = when - 60 * h;
            }
        }
        return what == 0 ? best : not(least);
    }

    int two(int pm, int what) {
        if (!moment(pm) || !within(what, 0, 1)) {
            return -1;
        }
        int persons = set[2];
        set[2] = what + 1;
        int when = arrives(pm);
        if (what == 0) {
            set[5]++;
            when = Math.max(when, arrives(pm));
            set[5]--;
        }
        set[2] = persons;
        return not(when);
    }

    /** The told waits are those of a row of ints, of which there are enough. */
    int book(int[] told, int minute, int what) {
        int force = inForce;
        int best = -1;
        int least = LATE;
        for (int l = -1; l < laws.size(); l++) {
            inForce = l;
            int off = 0;
            for (int p = 0; p < places.size(); p++) {
                int wait = waits(p, minute);
                off += Math.abs(Math.min(1440, Math.max(0, told[p])) - (wait < 0 ? 1440 : wait));
            }
            if (off < least) {
                best = l;
                least = off;
            }
        }
        inForce = force;
        return what == 0 ? best : least;
    }

    int safe(int pm, int n) {
        if (!moment(pm) || !within(n, 1, 40)) {
            return -1;
        }
        int seed = set[5];
        int least = -2;
        for (int d = 0; d <= 99 && least < 0; d++) {
            boolean all = true;
            for (int s = 0; s < n && all; s++) {
                set[5] = seed + s;
                all = arrives(pm / 10000, pm % 10000, d) <= set[1];
            }
            least = all ? d : -2;
        }
        set[5] = seed;
        return least;
    }
}
