/** Promises 13, 15 to 17: cars, their draws, waits, queues. */
public final class CarsTest {
    private static final Check CHECK = new Check("CarsTest");

    public static void main(String[] args) {
        minutes();
        draws();
        stops();
        badCars();
        waits();
        queues();
        here();
        hereByDraws();
        hereBySeeds();
        lawsWithoutWaiting();
        CHECK.end();
    }

    private static void due(String call, long got, long want) {
        CHECK.due(call, got, want);
    }

    /** The draw, worked out in longs. */
    private static int draw(int road, int j, int seed) {
        long sum = (j + 1) * 1103515245L + (road + 1) * 12345L + seed;
        return (int) (((sum & 0xffffffffL) >> 8) % 1000);
    }

    /** Two places and a third, three roads from place 0 of 7, 60 and 1 cars an hour. */
    private static ThumbOut three() {
        ThumbOut x = new ThumbOut();
        x.place(51);
        x.place(0);
        x.place(90);
        x.road(1, 7, 1030);
        x.road(2, 60, 1050);
        x.road(1, 1, 1070);
        x.road(12, 60, 1000);
        return x;
    }

    private static void minutes() {
        ThumbOut x = three();
        int[] by7 = {0, 8, 17, 25, 34, 42, 51, 60, 68};
        for (int j = 0; j < by7.length; j++) {
            due("13: minute of car " + j, x.car(0, j, 0), by7[j]);
        }
        due("13: the last of 7 an hour", x.car(0, 167, 0), 1431);
        due("13: no further one", x.car(0, 168, 0), ThumbOut.BAD);
        due("13: the last of 60 an hour", x.car(1, 1439, 0), 1439);
        due("13: no further one", x.car(1, 1440, 0), ThumbOut.BAD);
        due("13: the last of 1 an hour", x.car(2, 23, 0), 1380);
        due("13: no further one", x.car(2, 24, 0), ThumbOut.BAD);
        x.mend(2, 1, 59);
        due("13: the last of 59 an hour", x.car(2, 1415, 0), 1438);
        due("13: no further one", x.car(2, 1416, 0), ThumbOut.BAD);
    }

    private static void draws() {
        ThumbOut x = three();
        int[] seeds = {0, 1, -1, 77, 123456789, Integer.MIN_VALUE, Integer.MAX_VALUE};
        for (int seed : seeds) {
            x.set(5, seed);
            for (int road = 0; road < 4; road++) {
                for (int j = 0; j < 24; j += 5) {
                    due("13: draw", x.car(road, j, 1), draw(road, j, seed));
                }
            }
            due("13: draw of the last car", x.car(1, 1439, 1), draw(1, 1439, seed));
        }
    }

    /** Whether cars of a road stop as told by what their draws have to be below. */
    private static void stopsBelow(String call, ThumbOut x, int road, int seed, int bar) {
        int cars = x.of(road, 14);
        for (int j = 0; j < cars; j++) {
            if (j % 200 == 0 || Math.abs(draw(road, j, seed) - bar) < 6) {
                due(call, x.car(road, j, 2), draw(road, j, seed) < bar ? 1 : 0);
            }
        }
    }

    private static void stops() {
        ThumbOut x = three();
        stopsBelow("13: room 5", x, 1, 0, 60);
        stopsBelow("13: room 0", x, 3, 0, 10);
        x.set(2, 2);
        stopsBelow("13: room 5, two", x, 1, 0, 30);
        x.set(3, 1);
        stopsBelow("13: room 5, two, wet", x, 1, 0, 25);
        stopsBelow("13: room 0, two, wet", x, 3, 0, 0);
        x.set(4, 2);
        stopsBelow("13: room 5, two, wet, sign", x, 1, 0, 45);
        stopsBelow("13: sign of another road", x, 0, 0, 25);
        x.set(2, 1);
        x.set(5, 99);
        stopsBelow("13: room 5, wet, sign", x, 1, 99, 75);
        x.mend(0, 0, 9);
        stopsBelow("13: room 9, wet, sign", x, 1, 99, 115);
        x.force(Check.law(x, "d*5+w+h*10"));
        for (int j = 0; j < 1440; j += 19) {
            due("13: law", x.car(1, j, 2), draw(1, j, 99) < 251 + j / 60 * 10 ? 1 : 0);
        }
        x.force(-1);
        stopsBelow("13: no law", x, 1, 99, 115);
    }

    private static void badCars() {
        ThumbOut x = three();
        int[][] bad = {{4, 0, 0}, {-1, 0, 0}, {0, -1, 0}, {0, 168, 1}, {0, 0, 3}, {0, 0, -1}, {16, 0, 0},
            {0, Integer.MAX_VALUE, 0}, {0, Integer.MIN_VALUE, 2}, {Integer.MAX_VALUE, 0, 0}};
        for (int[] b : bad) {
            due("13: car(" + b[0] + ", " + b[1] + ", " + b[2] + ")", x.car(b[0], b[1], b[2]), ThumbOut.BAD);
        }
    }

    private static void waits() {
        ThumbOut x = three();
        Check.law(x, "(h>1)*1000");
        Check.law(x, "(h=5&d=30)*1000");
        Check.law(x, "0-1");
        Check.law(x, "1000");
        x.force(0);
        due("15: till hour 2", x.waits(0, 0), 120);
        due("15: at once", x.waits(0, 777), 0);
        due("15: the last minute", x.waits(0, 1439), 0);
        due("15: from another place", x.waits(1, 119), 1);
        due("15: no roads from there", x.waits(2, 700), ThumbOut.NOT);
        x.force(1);
        due("15: of 7 an hour", x.waits(0, 10), 290);
        due("15: the next one of 7", x.waits(0, 301), 7);
        due("15: behind the last one", x.waits(0, 352), ThumbOut.NOT);
        x.force(2);
        due("15: none stops", x.waits(0, 0), ThumbOut.NOT);
        x.force(3);
        due("15: whatever the rule says", Check.rule(x, "0"), 1);
        due("15: whatever the rule says", x.waits(0, 3), 0);
        int[][] bad = {{3, 0}, {-1, 0}, {0, -1}, {0, 1440}, {8, 0}, {Integer.MAX_VALUE, 0}, {0, Integer.MIN_VALUE}};
        for (int[] b : bad) {
            due("15: waits(" + b[0] + ", " + b[1] + ")", x.waits(b[0], b[1]), ThumbOut.BAD);
        }
    }

    private static void queues() {
        ThumbOut x = three();
        x.mend(1, 1, 2);
        Check.law(x, "1000");
        x.force(0);
        // 7 an hour: 0 8 17 25 34 42 51; 2 an hour: 0 30; 1 an hour: 0
        int[] first = {0, 0, 0, 8, 17, 25, 30, 34, 42};
        for (int k = 1; k <= 9; k++) {
            due("16: queue(0, 0, " + k + ")", x.queue(0, 0, k), first[k - 1]);
        }
        int[] later = {8, 17, 25, 30, 34, 42, 51, 60, 60};
        for (int k = 1; k <= 9; k++) {
            due("16: queue(0, 1, " + k + ")", x.queue(0, 1, k), later[k - 1]);
        }
        due("16: the last three", x.queue(0, 1400, 1), 1405);
        due("16: the last three", x.queue(0, 1400, 2), 1410);
        due("16: the last ones", x.queue(0, 1400, 5), 1431);
        due("16: no sixth one", x.queue(0, 1400, 6), ThumbOut.NOT);
        due("16: no roads", x.queue(2, 0, 1), ThumbOut.NOT);
        int[][] bad = {{0, 0, 0}, {0, 0, 10}, {0, 0, -1}, {3, 0, 1}, {-1, 0, 1}, {0, -1, 1}, {0, 1440, 1},
            {0, 0, Integer.MAX_VALUE}, {Integer.MIN_VALUE, 0, 1}};
        for (int[] b : bad) {
            due("16: queue(" + b[0] + ", " + b[1] + ", " + b[2] + ")", x.queue(b[0], b[1], b[2]), ThumbOut.BAD);
        }
    }

    private static void fraction(String call, ThumbOut x, int pm, int nm, int above, int below) {
        due("17: " + call + " above", x.here(pm, nm, 0), above);
        due("17: " + call + " below", x.here(pm, nm, 1), below);
    }

    private static void here() {
        ThumbOut x = three();
        Check.law(x, "1000");
        Check.law(x, "0");
        x.force(0);
        fraction("all stop", x, 0, 400000, 1, 1);
        fraction("one seed", x, 1439, 11439, 1, 1);
        fraction("no roads", x, 20000, 401439, 0, 1);
        x.force(1);
        fraction("none stops", x, 0, 70000, 0, 1);
        int[][] bad = {{0, 9999, 0}, {0, 410000, 0}, {0, -10000, 0}, {0, 11440, 0}, {0, 19999, 0}, {0, -1, 0},
            {1440, 10000, 0}, {9999, 10000, 0}, {30000, 10000, 0}, {-1, 10000, 0}, {-10000, 10000, 0},
            {0, 10000, 2}, {0, 10000, -1}, {0, Integer.MAX_VALUE, 0}, {0, Integer.MIN_VALUE, 0},
            {Integer.MAX_VALUE, 10000, 0}, {Integer.MIN_VALUE, 10000, 1}};
        for (int[] b : bad) {
            due("17: here(" + b[0] + ", " + b[1] + ", " + b[2] + ")", x.here(b[0], b[1], b[2]), ThumbOut.BAD);
        }
    }

    /** Counted anew by draws, on one road of 60 cars an hour, with 100 in 1000. */
    private static void hereByDraws() {
        int[] seeds = {0, -20, 1000, Integer.MAX_VALUE - 5};
        int[] told = {0, 1, 5, 12, 40, 1439};
        ThumbOut x = new ThumbOut();
        x.place(50);
        x.place(50);
        x.road(1, 60, 100);
        Check.law(x, "100");
        x.force(0);
        for (int seed : seeds) {
            x.set(5, seed);
            for (int m : told) {
                for (int n = 1; n <= 40; n += 13) {
                    int hits = 0;
                    for (int s = 0; s < n; s++) {
                        boolean stops = false;
                        for (int j = 300; j <= Math.min(1439, 300 + m); j++) {
                            stops |= draw(0, j, seed + s) < 100;
                        }
                        hits += stops ? 1 : 0;
                    }
                    int common = hits == 0 ? n : 1;
                    for (int c = 2; c <= n; c++) {
                        common = hits > 0 && hits % c == 0 && n % c == 0 ? c : common;
                    }
                    fraction("seed " + seed + " n " + n + " m " + m, x, 300, 10000 * n + m, hits / common, n / common);
                }
            }
            due("17: the seed stays", x.set(5, seed), seed);
        }
    }

    /** The lowest byte that a draw's sum loses: a seed of 1 more tells only where it is 255. */
    private static int lost(int j, int seed) {
        return (int) (((j + 1) * 1103515245L + 12345L + seed) & 255);
    }

    /** Cars whose draws become 1 more behind a few seeds, and a law by which only the lower one stops. */
    private static void hereBySeeds() {
        int[] seeds = {0, 4711, Integer.MAX_VALUE - 2, Integer.MIN_VALUE};
        for (int seed : seeds) {
            for (int few = 1; few <= 36; few += 5) {
                int j = 0;
                while (lost(j, seed) != 256 - few || draw(0, j, seed) == 999) {
                    j++;
                }
                ThumbOut x = new ThumbOut();
                x.place(50);
                x.place(50);
                x.road(1, 60, 100);
                x.set(5, seed);
                x.force(Check.law(x, "" + (draw(0, j, seed) + 1)));
                for (int n = 1; n <= 40; n++) {
                    int hits = Math.min(n, few);
                    int common = n;
                    while (hits % common != 0 || n % common != 0) {
                        common--;
                    }
                    fraction("few seeds of " + n, x, j, 10000 * n, hits / common, n / common);
                }
            }
        }
    }

    /** Laws know of no waiting and no goal, also when the rule was asked about them just before. */
    private static void lawsWithoutWaiting() {
        String[] laws = {"(m=0)*1000", "(a=0)*1000", "(b=0)*1000"};
        for (String law : laws) {
            ThumbOut x = new ThumbOut();
            x.place(50);
            x.place(50);
            x.place(50);
            x.road(1, 1, 700);
            x.road(12, 1, 900);
            x.set(0, 2);
            x.force(Check.law(x, law));
            Check.rule(x, "m>150");
            // in at 180 and, from 187 on, at 360
            due("18: " + law, x.goes(1, -1), 369);
        }
    }
}
