/** Promises 18 to 24, 26, 27: goes, dark, sign, in, walks, begin, two, safe, never. */
public final class GoingTest {
    private static final Check CHECK = new Check("GoingTest");

    public static void main(String[] args) {
        goes();
        goesByRule();
        twentyRides();
        dark();
        sign();
        getIn();
        walks();
        walksAlike();
        begin();
        two();
        byDraws();
        bySeeds();
        safe();
        never();
        CHECK.end();
    }

    private static void due(String call, long got, long want) {
        CHECK.due(call, got, want);
    }

    /** From 0 by 1 to 3 in 110 minutes, by 2 in 205; all cars stop; the goal is 3; 4 is apart. */
    private static ThumbOut fork() {
        ThumbOut x = new ThumbOut();
        for (int i = 0; i < 5; i++) {
            x.place(50);
        }
        x.road(1, 2, 1030);
        x.road(2, 3, 500);
        x.road(13, 1, 10060);
        x.road(23, 1, 20010);
        x.set(0, 3);
        x.force(Check.law(x, "1000"));
        return x;
    }

    private static void rides(String call, ThumbOut x, int pm, int... roads) {
        for (int i = 0; i < roads.length; i++) {
            due(call + ": ride " + i, x.goes(pm, i), roads[i]);
        }
        due(call + ": no more rides", x.goes(pm, roads.length), ThumbOut.BAD);
        due(call + ": no more rides", x.goes(pm, Integer.MAX_VALUE), ThumbOut.BAD);
    }

    private static void goes() {
        ThumbOut x = fork();
        due("18: from minute 1", x.goes(1, -1), 160);
        rides("18: from minute 1", x, 1, 0, 2);
        due("18: from minute 0", x.goes(0, -1), 160);
        due("18: from minute 31", x.goes(31, -1), 220);
        due("18: the last car", x.goes(11380, -1), 1480);
        due("18: behind the last car", x.goes(11381, -1), ThumbOut.NOT);
        due("18: beyond the day", x.goes(21370, -1), 1580);
        rides("18: a day's end", x, 1410, 0);
        due("18: a day's end", x.goes(1410, -1), ThumbOut.NOT);
        rides("18: no car any more", x, 1411);
        due("18: no car any more", x.goes(1411, -1), ThumbOut.NOT);
        due("18: at the goal", x.goes(30777, -1), 777);
        rides("18: at the goal", x, 30777);
        due("18: no roads", x.goes(40000, -1), ThumbOut.NOT);
        x.set(0, 7);
        due("18: no such goal", x.goes(0, -1), ThumbOut.NOT);
        int[][] bad = {{0, -2}, {0, Integer.MIN_VALUE}, {1440, -1}, {9999, -1}, {50000, -1}, {-1, -1},
            {-10000, -1}, {Integer.MAX_VALUE, -1}, {Integer.MIN_VALUE, -1}};
        for (int[] b : bad) {
            due("18: goes(" + b[0] + ", " + b[1] + ")", x.goes(b[0], b[1]), ThumbOut.BAD);
        }
    }

    private static void goesByRule() {
        ThumbOut x = fork();
        Check.rule(x, "1");
        due("18: into the first one", x.goes(1, -1), 260);
        rides("18: into the first one", x, 1, 1, 3);
        due("18: of one minute by roads", x.goes(0, -1), 160);
        rides("18: of one minute by roads", x, 0, 0, 2);
        Check.rule(x, "m>25");
        due("18: waiting", x.goes(1, -1), 220);
        rides("18: waiting", x, 1, 0, 2);
        Check.rule(x, "d=0|b-a>99");
        due("18: by danger and far", x.goes(1, -1), 260);
        Check.rule(x, "h>1&a<b");
        due("18: by the hour", x.goes(1, -1), 280);
        Check.rule(x, "0");
        due("18: never", x.goes(1, -1), ThumbOut.NOT);
        due("18: at the goal all the same", x.goes(30001, -1), 1);
        Check.rule(x, "1");
        x.force(Check.law(x, "(d<30)*1000"));
        due("18: only what stops", x.goes(0, -1), 260);
    }

    private static void twentyRides() {
        ThumbOut x = new ThumbOut();
        x.place(50);
        x.place(50);
        x.place(50);
        x.road(1, 60, 100);
        x.road(12, 60, 101);
        x.road(10, 60, 100);
        x.set(0, 2);
        x.force(Check.law(x, "1000"));
        Check.rule(x, "d=0|h=1");
        // from minute 42 on it is hour 1 when the 20th ride begins, from 40 on not yet
        due("18: by 20 rides", x.goes(42, -1), 62);
        due("18: the 20th ride", x.goes(42, 19), 1);
        due("18: no 21st ride", x.goes(42, 20), ThumbOut.BAD);
        due("18: not by 21", x.goes(40, -1), ThumbOut.NOT);
        due("18: its 20th ride", x.goes(40, 19), 2);
        due("18: no 21st ride", x.goes(40, 20), ThumbOut.BAD);
    }

    private static void dark() {
        ThumbOut x = fork();
        due("19: above", x.dark(1, 7, 0), 1);
        due("19: below", x.dark(1, 7, 1), 1);
        x.set(1, 160);
        due("19: just by dark", x.dark(1, 40, 0), 1);
        x.set(1, 159);
        due("19: none above", x.dark(1, 40, 0), 0);
        due("19: none below", x.dark(1, 40, 1), 1);
        due("19: never", x.dark(40001, 40, 0), 0);
        due("19: at the goal", x.dark(30159, 1, 0), 1);
        due("19: too late at the goal", x.dark(30160, 1, 0), 0);
        int[][] bad = {{0, 0, 0}, {0, 41, 0}, {0, -1, 0}, {0, 1, 2}, {0, 1, -1}, {1440, 1, 0}, {50000, 1, 0}, {-1, 1, 0},
            {0, Integer.MAX_VALUE, 0}, {Integer.MIN_VALUE, 1, 0}};
        for (int[] b : bad) {
            due("19: dark(" + b[0] + ", " + b[1] + ", " + b[2] + ")", x.dark(b[0], b[1], b[2]), ThumbOut.BAD);
        }
    }

    private static void sign() {
        ThumbOut x = fork();
        due("20: of like ones the first", x.sign(1, 0), -1);
        due("20: when", x.sign(1, 1), 160);
        Check.rule(x, "s|d>50");
        due("20: that", x.sign(1, 0), 1);
        due("20: when", x.sign(1, 1), 160);
        due("20: the sign stays", x.goes(1, -1), ThumbOut.NOT);
        Check.rule(x, "s|d=60|d=10");
        due("20: the earliest", x.sign(1, 0), 1);
        Check.rule(x, "s|d=10");
        due("20: the other one", x.sign(1, 0), 2);
        due("20: its when", x.sign(1, 1), 260);
        Check.rule(x, "s");
        due("20: always never", x.sign(1, 0), -1);
        due("20: always never", x.sign(1, 1), ThumbOut.NOT);
        x.set(4, 6);
        due("20: not from the one set", x.sign(1, 0), -1);
        Check.rule(x, "1");
        x.force(Check.law(x, "(s|d>50)*1000"));
        due("20: by law", x.sign(1, 0), 1);
        due("20: by law", x.sign(1, 1), 160);
        due("20: the sign stays", x.set(4, -1), 6);
        int[][] bad = {{0, 2}, {0, -1}, {1440, 0}, {50000, 0}, {-1, 0}, {Integer.MAX_VALUE, 0}, {0, Integer.MIN_VALUE}};
        for (int[] b : bad) {
            due("20: sign(" + b[0] + ", " + b[1] + ")", x.sign(b[0], b[1]), ThumbOut.VOID);
        }
    }

    private static void getIn() {
        ThumbOut x = fork();
        x.road(30, 1, 100);
        due("21: earlier by riding", x.in(0, 1), 1);
        due("21: earlier by waiting", x.in(1, 1), 0);
        due("21: alike", x.in(0, 0), 1);
        due("21: both never", x.in(0, 47), 0);
        due("21: waiting is never", x.in(2, 23), 1);
        due("21: away from the goal", x.in(4, 3), 0);
        Check.rule(x, "0");
        due("21: in whatever the rule says", x.in(2, 5), 1);
        due("21: on from there by the rule", x.in(0, 1), 0);
        x.force(Check.law(x, "(h=4)*1000"));
        due("21: does not stop", x.in(2, 5), ThumbOut.STATE);
        due("21: stops", x.in(2, 4), 1);
        int[][] bad = {{5, 0}, {-1, 0}, {0, -1}, {0, 48}, {2, 24}, {Integer.MAX_VALUE, 0}, {0, Integer.MIN_VALUE}};
        for (int[] b : bad) {
            due("21: in(" + b[0] + ", " + b[1] + ")", x.in(b[0], b[1]), ThumbOut.BAD);
        }
    }

    private static void walks(String call, ThumbOut x, int pm, int place, int when) {
        due("22: " + call + ": where", x.walks(pm, 0), place);
        due("22: " + call + ": when", x.walks(pm, 1), when);
    }

    private static void walks() {
        ThumbOut x = fork();
        walks("none to walk", x, 31, 0, 220);
        x.walk(1, 20);
        walks("on foot to 1", x, 31, 1, 160);
        walks("staying", x, 10001, 0, 160);
        walks("never", x, 1411, ThumbOut.NOT, ThumbOut.NOT);
        x.walk(3, 50);
        walks("on foot to the goal", x, 31, 3, 81);
        walks("beyond the day", x, 1430, 3, 1480);
        walks("at the goal", x, 30005, 3, 5);
        x.walk(30, 0);
        walks("no longer", x, 1430, ThumbOut.NOT, ThumbOut.NOT);
        x.walk(3, 50);
        x.walk(43, 300);
        walks("from apart", x, 41439, 3, 1739);
        int[][] bad = {{0, 2}, {0, -1}, {1440, 0}, {50000, 0}, {-1, 0}, {Integer.MAX_VALUE, 0}, {0, Integer.MIN_VALUE}};
        for (int[] b : bad) {
            due("22: walks(" + b[0] + ", " + b[1] + ")", x.walks(b[0], b[1]), ThumbOut.BAD);
        }
    }

    private static void walksAlike() {
        ThumbOut x = fork();
        x.walk(10, 30);
        walks("the least is this one", x, 1, 0, 160);
        x.walk(10, 20);
        walks("the least is another one", x, 10001, 0, 160);
        walks("a walk is no way by two", x, 40001, ThumbOut.NOT, ThumbOut.NOT);
        x.walk(41, 10);
        walks("one walk alone", x, 40001, 1, 160);
    }

    private static void begins(String call, ThumbOut x, int place, int hour, int minutes) {
        due("23: " + call + ": hour", x.begin(place, 0), hour);
        due("23: " + call + ": how long", x.begin(place, 1), minutes);
    }

    private static void begin() {
        ThumbOut x = fork();
        begins("all alike", x, 0, 0, 160);
        begins("at the goal", x, 3, 0, 0);
        begins("apart", x, 4, ThumbOut.NOT, ThumbOut.NOT);
        x.force(Check.law(x, "(h>4)*1000"));
        begins("from hour 5 on", x, 0, 5, 160);
        x.force(Check.law(x, "(h=7|h=9)*1000"));
        begins("two hours alone", x, 0, 7, 220);
        x.force(Check.law(x, "(h=23)*1000"));
        begins("the last hour", x, 1, 23, 100);
        int[][] bad = {{5, 0}, {-1, 0}, {0, 2}, {0, -1}, {8, 0}, {Integer.MAX_VALUE, 0}, {0, Integer.MIN_VALUE}};
        for (int[] b : bad) {
            due("23: begin(" + b[0] + ", " + b[1] + ")", x.begin(b[0], b[1]), ThumbOut.BAD);
        }
    }

    private static void two() {
        ThumbOut x = fork();
        due("24: apart", x.two(1, 0), 160);
        due("24: together", x.two(1, 1), 160);
        x.force(Check.law(x, "(t=1)*1000"));
        x.set(2, 2);
        due("24: apart, one by one", x.two(1, 0), 160);
        due("24: never together", x.two(1, 1), ThumbOut.NOT);
        due("24: persons stay", x.set(2, 1), 2);
        x.force(Check.law(x, "(t=2)*1000"));
        due("24: never apart", x.two(1, 0), ThumbOut.NOT);
        due("24: together", x.two(1, 1), 160);
        due("24: at the goal", x.two(30009, 0), 9);
        int[][] bad = {{0, 2}, {0, -1}, {1440, 0}, {50000, 0}, {-1, 0}, {Integer.MAX_VALUE, 0}, {0, Integer.MIN_VALUE}};
        for (int[] b : bad) {
            due("24: two(" + b[0] + ", " + b[1] + ")", x.two(b[0], b[1]), ThumbOut.BAD);
        }
    }

    private static int arrives(int since, int seed) {
        return arrives(since, seed, 300);
    }

    private static void byDraws() {
        ThumbOut x = new ThumbOut();
        x.place(50);
        x.place(50);
        x.road(1, 60, 700);
        x.set(0, 1);
        x.force(Check.law(x, "300"));
        for (int seed = -3; seed < 12; seed++) {
            x.set(5, seed);
            int since = 100 * (seed + 3);
            int one = arrives(since, seed);
            int other = arrives(since, seed + 1);
            due("18: by draws", x.goes(since, -1), one);
            due("24: apart by draws", x.two(since, 0), Math.max(one, other));
            due("24: together by draws", x.two(since, 1), one);
            x.set(1, since + 9);
            int hits = 0;
            for (int s = 0; s < 7; s++) {
                hits += arrives(since, seed + s) <= since + 9 ? 1 : 0;
            }
            due("19: by draws, above", x.dark(since, 7, 0), hits == 7 ? 1 : hits);
            due("19: by draws, below", x.dark(since, 7, 1), hits == 7 || hits == 0 ? 1 : 7);
            due("26: by draws", x.safe(since, 7), hits == 7 ? 0 : ThumbOut.NOT);
            due("19: the seed stays", x.set(5, seed), seed);
        }
        int last = 1439;
        while (arrives(last, 5) == -2 || arrives(last, 6) == -2) {
            last--;
        }
        boolean first = arrives(last + 1, 5) == -2;
        x.set(5, 5);
        due("24: one of the two is never", x.two(last + 1, 0), ThumbOut.NOT);
        due("24: together is by the seed", x.two(last + 1, 1), first ? ThumbOut.NOT : arrives(last + 1, 5));
    }

    /** The first minute in which a car of the one road stops by a bar, and 7 minutes. */
    private static int arrives(int since, int seed, int bar) {
        for (int j = since; j < 1440; j++) {
            if (draw(j, seed) < bar) {
                return j + 7;
            }
        }
        return -2;
    }

    private static int draw(int j, int seed) {
        return (int) ((((j + 1) * 1103515245L + 12345L + seed) & 0xffffffffL) / 256 % 1000);
    }

    /** A car that stops by the first few seeds alone, as their sums end in bytes up to 255. */
    private static void bySeeds() {
        for (int few = 1; few <= 6; few++) {
            int seed = 1000 * few;
            int j = 0;
            while (((j + 1) * 1103515245L + 12345L + seed & 255) != 256 - few || draw(j, seed) == 999) {
                j++;
            }
            int bar = draw(j, seed) + 1;
            ThumbOut x = new ThumbOut();
            x.place(50);
            x.place(50);
            x.road(1, 60, 700);
            x.set(0, 1);
            x.set(5, seed);
            x.force(Check.law(x, "" + bar));
            int one = arrives(j, seed, bar);
            int other = arrives(j, seed + 1, bar);
            due("24: apart, few " + few, x.two(j, 0), one < 0 || other < 0 ? ThumbOut.NOT : Math.max(one, other));
            due("24: together, few " + few, x.two(j, 1), one);
            x.set(5, seed + few - 1);
            due("24: apart, the last of them", x.two(j, 0), arrives(j, seed + few, bar));
            x.set(5, seed);
            x.set(1, j + 7);
            due("26: these seeds", x.safe(j, few), 0);
            due("26: and one more", x.safe(j, few + 1), ThumbOut.NOT);
            due("19: these above", x.dark(j, few + 1, 0), few);
            due("19: these below", x.dark(j, few + 1, 1), few + 1);
            due("19: half above", x.dark(j, 2 * few, 0), 1);
            due("19: half below", x.dark(j, 2 * few, 1), 2);
        }
    }

    private static void safe() {
        ThumbOut x = fork();
        due("26: by the worst road", x.safe(1, 3), 60);
        x.set(1, 159);
        due("26: not by dark", x.safe(1, 3), ThumbOut.NOT);
        x.set(1, 260);
        Check.rule(x, "1");
        due("26: the roundabout way", x.safe(1, 40), 10);
        x.set(1, 200);
        due("26: the first car is the wrong one", x.safe(1, 1), ThumbOut.NOT);
        due("26: the first car is the right one", x.safe(0, 1), 60);
        due("26: at the goal", x.safe(30001, 40), 0);
        due("26: apart", x.safe(40001, 40), ThumbOut.NOT);
        due("26: then all roads are open again", x.goes(0, -1), 160);
        x.mend(0, 2, 99);
        due("26: up to 99", x.safe(0, 1), 99);
        x.mend(0, 2, 0);
        x.mend(2, 2, 0);
        due("26: down to 0", x.safe(0, 1), 0);
        int[][] bad = {{0, 0}, {0, 41}, {0, -1}, {1440, 1}, {50000, 1}, {-1, 1}, {0, Integer.MAX_VALUE},
            {Integer.MIN_VALUE, 1}};
        for (int[] b : bad) {
            due("26: safe(" + b[0] + ", " + b[1] + ")", x.safe(b[0], b[1]), ThumbOut.BAD);
        }
    }

    private static void never() {
        ThumbOut x = fork();
        due("27: apart", x.never(), 16);
        x.walk(43, 10);
        due("27: a walk is no road", x.never(), 16);
        x.set(0, 1);
        due("27: one way alone", x.never(), 4 + 8 + 16);
        x.set(0, 0);
        due("27: no way back", x.never(), 2 + 4 + 8 + 16);
        x.road(30, 1, 100);
        due("27: round", x.never(), 16);
        x.set(0, 4);
        due("27: to apart", x.never(), 15);
        x.set(0, 5);
        due("27: no such goal", x.never(), 31);
        x.place(0);
        due("27: the goal is there now", x.never(), 31);
        x.road(35, 1, 100);
        due("27: and a road to it", x.never(), 16);
        Check.rule(x, "0");
        due("27: whatever the rule says", x.never(), 16);
    }
}
