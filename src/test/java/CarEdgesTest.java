/** Each sentence on cars, waits and queues that names an edge: promises 13, 15 to 17. */
public final class CarEdgesTest {
    private static final Check CHECK = new Check("CarEdgesTest");
    private static final int BAD = ThumbOut.BAD;
    private static final int NOT = ThumbOut.NOT;
    private static final int LOW = Integer.MIN_VALUE;
    private static final int HIGH = Integer.MAX_VALUE;

    public static void main(String[] args) {
        minutesAreCut();
        lastCars();
        carBad();
        drawsOfInts();
        drawsByRoadsAndCars();
        stopsBelowTheDraw();
        stopsWithoutALaw();
        noneBelowZero();
        signOfTheRoad();
        stopsByTheLawInForce();
        waitOfNone();
        waitFromThatMinute();
        waitWithoutCars();
        waitBad();
        waitWhateverTheRule();
        queueFromFirstToNinth();
        queueOfOneMinute();
        queueEarlierByALaterRoad();
        queueNot();
        queueBad();
        hereNoMoreThanTold();
        hereEachSeedOneMore();
        hereLowestTerms();
        hereNone();
        hereSeedsThatWrap();
        hereBad();
        CHECK.end();
    }

    private static void due(String call, long got, long want) {
        CHECK.due(call, got, want);
    }

    /** A road of some cars an hour from a place of room 5. */
    private static ThumbOut road(int flow) {
        ThumbOut x = Check.places(2);
        x.road(1, flow, 700);
        return x;
    }

    /** "car j (0, 1, ..) passes at MINUTE 60 j by FLOW (cut)" */
    private static void minutesAreCut() {
        for (int flow = 1; flow <= 60; flow++) {
            ThumbOut x = road(flow);
            for (int j = 0; j <= flow + 1; j++) {
                due("13: car " + j + " of " + flow, x.car(0, j, 0), 60 * j / flow);
            }
        }
        ThumbOut x = road(7);
        int[] by7 = {0, 8, 17, 25, 34, 42, 51, 60};
        for (int j = 0; j < by7.length; j++) {
            due("13: car " + j + " of 7", x.car(0, j, 0), by7[j]);
        }
    }

    /** "up to MINUTE 1439" */
    private static void lastCars() {
        int[] flows = {1, 2, 7, 59, 60};
        int[] last = {1380, 1410, 1431, 1438, 1439};
        for (int i = 0; i < flows.length; i++) {
            ThumbOut x = road(flows[i]);
            int cars = 24 * flows[i];
            for (int what = 0; what <= 2; what++) {
                due("13: no car behind, what " + what, x.car(0, cars, what), BAD);
            }
            due("13: the last of " + flows[i], x.car(0, cars - 1, 0), last[i]);
        }
    }

    /** "BAD (also: there is no such car)." */
    private static void carBad() {
        ThumbOut x = road(2);
        int[] none = {-1, -2, 48, 49, 1440, LOW, HIGH, HIGH / 60 + 1, 1 << 26};
        for (int j : none) {
            due("13: car(0, " + j + ", 0)", x.car(0, j, 0), BAD);
            due("13: car(0, " + j + ", 1)", x.car(0, j, 1), BAD);
            due("13: car(0, " + j + ", 2)", x.car(0, j, 2), BAD);
        }
        int[] roads = {-1, 1, 2, 15, 16, LOW, HIGH};
        for (int road : roads) {
            due("13: car(" + road + ", 0, 0)", x.car(road, 0, 0), BAD);
        }
        int[] whats = {-1, 3, 4, LOW, HIGH};
        for (int what : whats) {
            due("13: car(0, 0, " + what + ")", x.car(0, 0, what), BAD);
        }
        due("13: without places", new ThumbOut().car(0, 0, 0), BAD);
        x.mend(0, 1, 1);
        due("13: gone with the flow", x.car(0, 24, 0), BAD);
        x.undo();
        due("13: back with it", x.car(0, 24, 0), 720);
    }

    /** "DRAW .. (.. + SEED, an int, >>> 8) % 1000" */
    private static void drawsOfInts() {
        ThumbOut x = road(60);
        int[] sums = {0, 255, 256, 511, 255999, 256000, 256255, 256256, HIGH, LOW, -1, -256, -257, LOW + 256, HIGH - 256};
        int[] draws = {0, 0, 1, 1, 999, 0, 0, 1, 607, 608, 215, 215, 214, 609, 606};
        int[] cars = {0, 1, 2, 700, 1439};
        for (int i = 0; i < sums.length; i++) {
            for (int j : cars) {
                x.set(5, Check.seed(0, j, sums[i]));
                due("13: draw of sum " + sums[i] + ", car " + j, x.car(0, j, 1), draws[i]);
            }
        }
    }

    /** "(j + 1) * 1103515245 + (x + 1) * 12345": by SEED 0, and every road and car has its own. */
    private static void drawsByRoadsAndCars() {
        ThumbOut x = Check.places(2);
        for (int road = 0; road < 16; road++) {
            x.road(1, 60, 100);
        }
        due("13: road 0, car 0", x.car(0, 0, 1), 654);
        due("13: road 1, car 7", x.car(1, 7, 1), 515);
        for (int road = 0; road < 16; road++) {
            for (int j = 0; j < 1440; j += 111) {
                int sum = (j + 1) * 1103515245 + (road + 1) * 12345;
                due("13: road " + road + ", car " + j, x.car(road, j, 1), (sum >>> 8) % 1000);
            }
        }
    }

    /** Whether a car stops by draws below a bar, and by no other: asked at the bar alone. */
    private static void bar(String call, ThumbOut x, int road, int j, int bar) {
        if (bar > 0) {
            Check.draw(x, road, j, Math.min(bar, 1000) - 1);
            due("13: " + call + ", below " + bar, x.car(road, j, 2), 1);
        }
        if (bar < 1000) {
            Check.draw(x, road, j, Math.max(bar, 0));
            due("13: " + call + ", not below " + bar, x.car(road, j, 2), 0);
        }
    }

    /** "if its DRAW is below what the LAW gives" */
    private static void stopsBelowTheDraw() {
        int[] bars = {1, 2, 500, 999, 1000, 9999, 0};
        for (int bar : bars) {
            ThumbOut x = road(60);
            Check.force(x, "" + bar);
            bar("law " + bar, x, 0, 0, bar);
            bar("law " + bar, x, 0, 1439, bar);
        }
    }

    /** "without: (10 r and 10) by t (cut), less 5 w, and 20 s more" */
    private static void stopsWithoutALaw() {
        for (int r = 0; r <= 9; r++) {
            ThumbOut x = new ThumbOut();
            x.place(10 * r + 1);
            x.place(90 - 10 * r);
            x.road(1, 60, 799);
            for (int t = 1; t <= 2; t++) {
                x.set(2, t);
                for (int w = 0; w <= 1; w++) {
                    x.set(3, w);
                    for (int s = 0; s <= 1; s++) {
                        x.set(4, s);
                        bar("r " + r + ", t " + t + ", w " + w + ", s " + s, x, 0, 77, (10 * r + 10) / t - 5 * w + 20 * s);
                    }
                }
            }
        }
    }

    /** A DRAW of 0 is not below 0, nor below less. */
    private static void noneBelowZero() {
        ThumbOut x = new ThumbOut();
        x.place(0);
        x.place(0);
        x.road(1, 60, 700);
        x.set(2, 2);
        x.set(3, 1);
        Check.draw(x, 0, 9, 0);
        due("13: below 0", x.car(0, 9, 2), 0);
        due("15: none at all", x.waits(0, 0), NOT);
        Check.force(x, "-9999");
        due("13: by a law below 0", x.car(0, 9, 2), 0);
        Check.force(x, "2048*1024*1024");
        due("13: by the least int", x.car(0, 9, 2), 0);
    }

    /** "s 1, if the ROAD leads to SIGN": not if it leads from there. */
    private static void signOfTheRoad() {
        ThumbOut x = Check.places(3);
        x.road(1, 60, 700);
        x.road(12, 60, 700);
        for (int sign = -1; sign <= 7; sign++) {
            x.set(4, sign);
            bar("sign " + sign, x, 0, 3, sign == 1 ? 80 : 60);
            bar("sign " + sign, x, 1, 3, sign == 2 ? 80 : 60);
        }
    }

    /** "one is IN FORCE, or none": the car stops by that one alone. */
    private static void stopsByTheLawInForce() {
        ThumbOut x = road(60);
        Check.law(x, "100");
        Check.law(x, "200");
        bar("no law in force", x, 0, 5, 60);
        x.force(0);
        bar("law 0", x, 0, 5, 100);
        x.force(1);
        bar("law 1", x, 0, 5, 200);
        x.mend(0, 0, 9);
        x.set(3, 1);
        bar("law 1 knows of no room", x, 0, 5, 200);
        x.force(-1);
        bar("none again", x, 0, 5, 95);
    }

    /** "how many MINUTES till the first car there that STOPS": 0, if it passes in that very minute. */
    private static void waitOfNone() {
        ThumbOut x = road(1);
        Check.force(x, "1000");
        for (int hour = 0; hour < 24; hour++) {
            due("15: in its minute", x.waits(0, 60 * hour), 0);
        }
    }

    /** "WAIT at a PLACE from a MINUTE on" */
    private static void waitFromThatMinute() {
        ThumbOut x = road(1);
        Check.force(x, "(h=5)*1000");
        due("15: from the day's begin", x.waits(0, 0), 300);
        due("15: from one minute ahead", x.waits(0, 299), 1);
        due("15: from its minute", x.waits(0, 300), 0);
        due("15: from one minute behind", x.waits(0, 301), NOT);
        x.mend(0, 1, 60);
        due("15: the last of the hour", x.waits(0, 359), 0);
        due("15: behind the hour", x.waits(0, 360), NOT);
        Check.force(x, "(h=23)*1000");
        due("15: the day's last minute", x.waits(0, 1439), 0);
        due("15: from the day's begin", x.waits(0, 0), 1380);
    }

    /** "NOT": no car stops there any more, or no road leads from there. */
    private static void waitWithoutCars() {
        ThumbOut x = road(1);
        due("15: no roads from there", x.waits(1, 0), NOT);
        due("15: no roads at all", Check.places(1).waits(0, 0), NOT);
        Check.force(x, "1000");
        due("15: the last car", x.waits(0, 1380), 0);
        due("15: behind the last car", x.waits(0, 1381), NOT);
        due("15: the last minute", x.waits(0, 1439), NOT);
        Check.force(x, "0");
        due("15: none stops", x.waits(0, 0), NOT);
    }

    /** "BAD" */
    private static void waitBad() {
        ThumbOut x = road(60);
        int[] places = {-1, 2, 3, 7, 8, LOW, HIGH};
        for (int place : places) {
            due("15: waits(" + place + ", 0)", x.waits(place, 0), BAD);
        }
        int[] minutes = {-1, -2, 1440, 1441, 9999, LOW, HIGH};
        for (int minute : minutes) {
            due("15: waits(0, " + minute + ")", x.waits(0, minute), BAD);
            due("15: waits(1, " + minute + ")", x.waits(1, minute), BAD);
        }
        due("15: without places", new ThumbOut().waits(0, 0), BAD);
    }

    /** "(whatever THE RULE says)" */
    private static void waitWhateverTheRule() {
        ThumbOut x = road(60);
        Check.force(x, "1000");
        x.set(0, 0);
        due("15: away from the goal", x.waits(0, 5), 0);
        Check.rule(x, "0");
        due("15: by a rule of none", x.waits(0, 5), 0);
        due("16: by a rule of none", x.queue(0, 5, 9), 13);
        due("17: by a rule of none", x.here(5, 10000, 0), 1);
    }

    /** "the MINUTE of the k-th (1 .. 9) car that STOPS there" */
    private static void queueFromFirstToNinth() {
        ThumbOut x = road(6);
        Check.force(x, "1000");
        for (int k = 1; k <= 9; k++) {
            due("16: queue(0, 100, " + k + ")", x.queue(0, 100, k), 90 + 10 * k);
            due("16: queue(0, 101, " + k + ")", x.queue(0, 101, k), 100 + 10 * k);
        }
    }

    /** "the k-th car": of like minutes each one counts. */
    private static void queueOfOneMinute() {
        ThumbOut x = Check.places(2);
        for (int i = 0; i < 5; i++) {
            x.road(1, 1, 700);
        }
        x.road(10, 60, 700);
        Check.force(x, "1000");
        for (int k = 1; k <= 9; k++) {
            due("16: five an hour, the " + k + "-th", x.queue(0, 60, k), k <= 5 ? 60 : 120);
            due("16: of the others none", x.queue(1, 60, k), 59 + k);
            due("16: five in the last hour, the " + k + "-th", x.queue(0, 1380, k), k <= 5 ? 1380 : NOT);
            due("16: ten in the last two, the " + k + "-th", x.queue(0, 1320, k), k <= 5 ? 1320 : 1380);
        }
    }

    /** "the k-th car": whichever road came first. */
    private static void queueEarlierByALaterRoad() {
        ThumbOut x = Check.places(2);
        x.road(1, 1, 730);
        x.road(1, 2, 720);
        x.road(1, 3, 710);
        Check.force(x, "1000");
        // from minute 1 on: 60 120 ..; 30 60 90 120 ..; 20 40 60 80 100 120 ..
        int[] due = {20, 30, 40, 60, 60, 60, 80, 90, 100};
        for (int k = 1; k <= 9; k++) {
            due("16: the " + k + "-th", x.queue(0, 1, k), due[k - 1]);
        }
        ThumbOut y = Check.places(2);
        y.road(1, 3, 710);
        y.road(1, 1, 730);
        y.road(1, 2, 720);
        Check.force(y, "1000");
        for (int k = 1; k <= 9; k++) {
            due("16: the " + k + "-th, in another order", y.queue(0, 1, k), due[k - 1]);
        }
    }

    /** "NOT": fewer than k stop there. */
    private static void queueNot() {
        ThumbOut x = road(1);
        Check.force(x, "1000");
        for (int k = 1; k <= 9; k++) {
            due("16: the last three, the " + k + "-th", x.queue(0, 1260, k), k <= 3 ? 1200 + 60 * k : NOT);
            due("16: no roads from there", x.queue(1, 0, k), NOT);
        }
        due("16: behind the last one", x.queue(0, 1381, 1), NOT);
        due("16: the last one", x.queue(0, 1380, 1), 1380);
    }

    /** "BAD" */
    private static void queueBad() {
        ThumbOut x = road(60);
        Check.force(x, "1000");
        int[] ks = {0, -1, 10, 11, LOW, HIGH};
        for (int k : ks) {
            due("16: queue(0, 0, " + k + ")", x.queue(0, 0, k), BAD);
        }
        int[] places = {-1, 2, 3, 8, LOW, HIGH};
        for (int place : places) {
            due("16: queue(" + place + ", 0, 1)", x.queue(place, 0, 1), BAD);
        }
        int[] minutes = {-1, 1440, 1441, LOW, HIGH};
        for (int minute : minutes) {
            due("16: queue(0, " + minute + ", 1)", x.queue(0, minute, 1), BAD);
        }
    }

    private static void fraction(String call, ThumbOut x, int pm, int nm, int above, int below) {
        due("17: " + call + ", above", x.here(pm, nm, 0), above);
        due("17: " + call + ", below", x.here(pm, nm, 1), below);
    }

    /** "in how many of n SEEDS .. WAIT is no more than told" */
    private static void hereNoMoreThanTold() {
        ThumbOut x = road(1);
        Check.force(x, "(h=5)*1000");
        fraction("just as told", x, 290, 10010, 1, 1);
        fraction("one more than told", x, 290, 10009, 0, 1);
        fraction("told 0", x, 300, 10000, 1, 1);
        fraction("told 0, one minute ahead", x, 299, 10000, 0, 1);
        fraction("never", x, 301, 11439, 0, 1);
        fraction("the longest told", x, 0, 11439, 1, 1);
        Check.force(x, "(h=23)*1000");
        fraction("the day's last car", x, 0, 11380, 1, 1);
        fraction("one less", x, 0, 11379, 0, 1);
        fraction("the day's last minute", x, 1439, 11439, 0, 1);
    }

    /** "n SEEDS (1 .. 40; SEED and each 1 more)": a car that stops by the first few seeds alone. */
    private static void hereEachSeedOneMore() {
        for (int few = 1; few <= 39; few += 2) {
            ThumbOut x = road(60);
            Check.force(x, "500");
            x.set(5, Check.seed(0, 77, 500 * 256 - few));
            for (int n = 1; n <= 40; n++) {
                int hits = Math.min(n, few);
                int common = common(hits, n);
                fraction("the first " + few + " of " + n, x, 77, 10000 * n, hits / common, n / common);
            }
        }
        ThumbOut x = road(60);
        Check.force(x, "500");
        x.set(5, Check.seed(0, 77, 256000 - 3));
        // by the first three its draw is 999, from then on 0
        fraction("not by the first three", x, 77, 30000, 0, 1);
        fraction("by the fourth", x, 77, 40000, 1, 4);
        fraction("by the last 37", x, 77, 400000, 37, 40);
    }

    private static int common(int a, int b) {
        int common = b;
        while (a % common != 0 || b % common != 0) {
            common--;
        }
        return common;
    }

    /** "in lowest terms" */
    private static void hereLowestTerms() {
        int[][] terms = {{2, 4, 1, 2}, {6, 9, 2, 3}, {10, 40, 1, 4}, {24, 36, 2, 3}, {39, 40, 39, 40}, {13, 39, 1, 3},
            {40, 40, 1, 1}, {1, 40, 1, 40}, {7, 9, 7, 9}, {16, 40, 2, 5}};
        for (int[] t : terms) {
            ThumbOut x = road(60);
            Check.force(x, "500");
            x.set(5, Check.seed(0, 77, 500 * 256 - t[0]));
            fraction(t[0] + " of " + t[1], x, 77, 10000 * t[1], t[2], t[3]);
        }
    }

    /** "(0 by 1, if none)" */
    private static void hereNone() {
        ThumbOut x = road(60);
        Check.force(x, "0");
        for (int n = 1; n <= 40; n++) {
            fraction("none of " + n, x, 77, 10000 * n + 1439, 0, 1);
        }
        fraction("no roads from there", x, 10077, 401439, 0, 1);
    }

    /** "SEED (any int ..)": 1 more than the last int is the first. */
    private static void hereSeedsThatWrap() {
        ThumbOut x = road(60);
        Check.force(x, "500");
        // car 77's sum by the last int, and how its draw goes on behind it
        int sum = HIGH + (int) (78 * 1103515245L + 12345L);
        int hits = 0;
        for (int s = 0; s < 40; s++) {
            hits += (sum + s >>> 8) % 1000 < 500 ? 1 : 0;
        }
        x.set(5, HIGH);
        int common = common(hits, 40);
        fraction("from the last int on", x, 77, 400000, hits / common, 40 / common);
        due("6: the seed stays", x.set(5, 0), HIGH);
    }

    /** "BAD" */
    private static void hereBad() {
        ThumbOut x = road(60);
        Check.force(x, "1000");
        int[] pms = {1440, 1441, 9999, 11440, 20000, 30000, 70000, 80000, -1, -10000, LOW, HIGH};
        for (int pm : pms) {
            due("17: here(" + pm + ", 10000, 0)", x.here(pm, 10000, 0), BAD);
        }
        int[] nms = {0, 1, 1439, 9999, 410000, 410001, 420000, 11440, 19999, 401440, -1, -10000, -400000, LOW, HIGH};
        for (int nm : nms) {
            due("17: here(0, " + nm + ", 0)", x.here(0, nm, 0), BAD);
            due("17: here(0, " + nm + ", 1)", x.here(0, nm, 1), BAD);
        }
        int[] parts = {-1, 2, 3, LOW, HIGH};
        for (int part : parts) {
            due("17: here(0, 10000, " + part + ")", x.here(0, 10000, part), BAD);
        }
        due("17: n 1, told 0", x.here(0, 10000, 0), 1);
        due("17: n 40, told 1439", x.here(11439, 401439, 1), 1);
    }
}
