/** Each sentence on going that names an edge: promises 18 to 27. */
public final class GoingEdgesTest {
    private static final Check CHECK = new Check("GoingEdgesTest");
    private static final int BAD = ThumbOut.BAD;
    private static final int NOT = ThumbOut.NOT;
    private static final int STATE = ThumbOut.STATE;
    private static final int VOID = ThumbOut.VOID;
    private static final int LOW = Integer.MIN_VALUE;
    private static final int HIGH = Integer.MAX_VALUE;

    /** Moments that are none where there are places 0 and 1. */
    private static final int[] NO_MOMENTS = {-1, -2, -1439, -10000, -10001, 1440, 1441, 9999, 11440, 19999, 20000, 21439,
        30000, 80000, 100000, LOW, LOW + 1, HIGH, HIGH - 1};

    public static void main(String[] args) {
        goesAtTheGoal();
        goesInThatMinute();
        goesByMinutesThenRoads();
        goesWithTheFirstThatStops();
        goesOnFromRideToRide();
        goesBeyondTheDay();
        goesByTwentyRides();
        goesNever();
        goesToNoGoal();
        goesBad();
        darkJustThen();
        darkOfSeeds();
        darkNone();
        darkBad();
        signNeverIsLatest();
        signFirstOfLikeOnes();
        signOfPlacesThereAre();
        signByTheHabit();
        signVoid();
        inNoLater();
        inFromTheMinuteBehind();
        inNeverIsLatest();
        inAtTheGoal();
        inState();
        inBad();
        walksToThisOne();
        walksLeastOfLikeOnes();
        walksOneWalk();
        walksBeyondTheDay();
        walksNot();
        walksBad();
        beginFirstOfLikeOnes();
        beginTakesLeast();
        beginFullHours();
        beginNot();
        beginBad();
        twoApart();
        twoTogether();
        twoNot();
        twoSeedsThatWrap();
        twoBad();
        bookVoid();
        bookRefused();
        bookOfAsManyAsPlaces();
        bookHeld();
        bookNoneFirst();
        bookByWhatIsSet();
        safeFromLeastToMost();
        safeNeverGotIn();
        safeByDark();
        safeInEachSeed();
        safeBad();
        neverBits();
        CHECK.end();
    }

    private static void due(String call, long got, long want) {
        CHECK.due(call, got, want);
    }

    /** Two places, a road of some cars an hour and minutes from 0 to the goal 1; all cars stop. */
    private static ThumbOut ride(int flow, int minutes) {
        ThumbOut x = Check.places(2);
        x.road(1, flow, 100 * minutes);
        x.set(0, 1);
        return Check.force(x, "1000");
    }

    private static void rides(String call, ThumbOut x, int pm, int... roads) {
        for (int i = 0; i < roads.length; i++) {
            due("18: " + call + ", ride " + i, x.goes(pm, i), roads[i]);
        }
        int[] none = {roads.length, roads.length + 1, 19, 20, 21, HIGH};
        for (int i : none) {
            if (i >= roads.length) {
                due("18: " + call + ", no ride " + i, x.goes(pm, i), BAD);
            }
        }
    }

    /** "at GOAL it ARRIVES" */
    private static void goesAtTheGoal() {
        ThumbOut x = ride(60, 7);
        x.road(10, 60, 100);
        int[] minutes = {0, 1, 59, 1438, 1439};
        for (int minute : minutes) {
            due("18: at the goal", x.goes(10000 + minute, -1), minute);
        }
        rides("at the goal", x, 10005);
        Check.rule(x, "0");
        due("18: whatever the rule says", x.goes(10005, -1), 5);
        x.force(-1);
        due("18: whatever stops", x.goes(11439, -1), 1439);
    }

    /** "that pass in that MINUTE or later" */
    private static void goesInThatMinute() {
        ThumbOut x = ride(1, 7);
        due("18: in that minute", x.goes(60, -1), 67);
        due("18: the minute ahead", x.goes(59, -1), 67);
        due("18: the minute behind", x.goes(61, -1), 127);
        due("18: the last car", x.goes(1380, -1), 1387);
        due("18: behind the last car", x.goes(1381, -1), NOT);
        due("18: the last minute", x.goes(1439, -1), NOT);
        x.mend(0, 1, 60);
        due("18: the last minute's car", x.goes(1439, -1), 1446);
    }

    /** "by MINUTES, then by ROADS" */
    private static void goesByMinutesThenRoads() {
        ThumbOut x = Check.places(2);
        x.road(1, 1, 5000);
        x.road(1, 2, 4000);
        x.road(1, 3, 3000);
        x.set(0, 1);
        Check.force(x, "1000");
        due("18: of one minute by roads", x.goes(0, -1), 50);
        rides("of one minute by roads", x, 0, 0);
        due("18: by minutes", x.goes(1, -1), 20 + 30);
        rides("by minutes", x, 1, 2);
        due("18: by minutes", x.goes(21, -1), 30 + 40);
        rides("by minutes", x, 21, 1);
        due("18: again of one minute", x.goes(41, -1), 60 + 50);
        rides("again of one minute", x, 41, 0);
        Check.rule(x, "h>0|m>0");
        due("18: the first into which one gets", x.goes(0, -1), 20 + 30);
    }

    /** "the first that STOPS and into which one gets by THE RULE" */
    private static void goesWithTheFirstThatStops() {
        ThumbOut x = ride(60, 7);
        Check.force(x, "500");
        Check.draw(x, 0, 33, 499);
        due("18: it stops", x.goes(33, -1), 40);
        Check.draw(x, 0, 33, 500);
        due("18: it does not", x.goes(33, -1) > 40 ? 1 : 0, 1);
        Check.force(x, "(h=7)*1000");
        due("18: the first of the hour", x.goes(0, -1), 427);
        Check.rule(x, "m=433");
        due("18: and in by the rule", x.goes(0, -1), 440);
        Check.rule(x, "m=480");
        due("18: not both", x.goes(0, -1), NOT);
    }

    /** "one is where its ROAD leads LONG minutes later", "again and again" */
    private static void goesOnFromRideToRide() {
        ThumbOut x = Check.places(8);
        for (int a = 0; a < 7; a++) {
            x.road(11 * a + 1, 60, 100 * (a + 1));
        }
        x.set(0, 7);
        Check.force(x, "1000");
        due("18: seven rides", x.goes(100, -1), 128);
        rides("seven rides", x, 100, 0, 1, 2, 3, 4, 5, 6);
        due("18: from between", x.goes(50100, -1), 113);
        rides("from between", x, 50100, 5, 6);
        x.mend(3, 1, 1);
        due("18: waiting once between", x.goes(100, -1), 120 + 4 + 5 + 6 + 7);
    }

    /** "(MINUTES may go beyond 1439: no car passes then)" */
    private static void goesBeyondTheDay() {
        ThumbOut x = ride(60, 300);
        due("18: arriving beyond", x.goes(1439, -1), 1739);
        x.place(50);
        x.road(12, 60, 100);
        x.set(0, 2);
        due("18: a car in the last minute", x.goes(1139, -1), 1440);
        rides("a car in the last minute", x, 1139, 0, 1);
        due("18: no car in minute 1440", x.goes(1140, -1), NOT);
        rides("no car in minute 1440", x, 1140, 0);
        due("18: nor later", x.goes(1439, -1), NOT);
        rides("nor later", x, 1439, 0);
    }

    /** "No such car, or 20 rides taken: never (NOT)." */
    private static void goesByTwentyRides() {
        ThumbOut x = Check.places(3);
        x.road(1, 60, 100);
        x.road(12, 60, 101);
        x.road(10, 60, 100);
        x.set(0, 2);
        Check.force(x, "1000");
        Check.rule(x, "d=0|h=1");
        for (int since = 30; since <= 62; since++) {
            int ahead = 1;
            while (since + ahead < 60) {
                ahead += 2;
            }
            boolean arrives = ahead + 1 <= 20;
            due("18: by " + (ahead + 1) + " rides", x.goes(since, -1), arrives ? since + ahead + 1 : NOT);
            int last = Math.min(ahead, 19);
            due("18: the last ride", x.goes(since, last), arrives ? 1 : last % 2 == 0 ? 0 : 2);
            due("18: no further ride", x.goes(since, last + 1), BAD);
        }
    }

    /** "never (NOT)": rides that were taken are told none the less. */
    private static void goesNever() {
        ThumbOut x = Check.places(4);
        x.road(1, 60, 500);
        x.road(12, 60, 500);
        x.set(0, 3);
        Check.force(x, "1000");
        Check.rule(x, "1");
        due("18: a dead end", x.goes(3, -1), NOT);
        rides("a dead end", x, 3, 0, 1);
        due("18: no roads from there", x.goes(20003, -1), NOT);
        rides("no roads from there", x, 20003);
        Check.rule(x, "0");
        due("18: never in", x.goes(3, -1), NOT);
        rides("never in", x, 3);
        Check.rule(x, "1");
        x.force(-1);
        x.mend(0, 0, 0);
        x.set(2, 2);
        x.set(3, 1);
        due("18: none stops", x.goes(3, -1), NOT);
        rides("none stops", x, 3);
    }

    /** "GOAL (a PLACE .. whether it is there or not)" */
    private static void goesToNoGoal() {
        ThumbOut x = ride(60, 7);
        for (int goal = 2; goal <= 7; goal++) {
            x.set(0, goal);
            due("18: goal " + goal, x.goes(3, -1), NOT);
            due("18: no nearer by any road", x.goes(3, 0), BAD);
        }
        Check.rule(x, "1");
        due("18: in by the rule", x.goes(3, 0), 0);
        due("18: never all the same", x.goes(3, -1), NOT);
    }

    /** "BAD (none such)" */
    private static void goesBad() {
        ThumbOut x = ride(60, 7);
        for (int pm : NO_MOMENTS) {
            due("18: goes(" + pm + ", -1)", x.goes(pm, -1), BAD);
            due("18: goes(" + pm + ", 0)", x.goes(pm, 0), BAD);
        }
        int[] none = {-2, -3, LOW, 1, 2, 19, 20, HIGH};
        for (int i : none) {
            due("18: goes(3, " + i + ")", x.goes(3, i), BAD);
        }
        due("18: without places", new ThumbOut().goes(0, -1), BAD);
        due("18: the last moment", x.goes(11439, -1), 1439);
    }

    private static void byDark(String call, ThumbOut x, int pm, int n, int above, int below) {
        due("19: " + call + ", above", x.dark(pm, n, 0), above);
        due("19: " + call + ", below", x.dark(pm, n, 1), below);
    }

    /** "ARRIVES no later than DARK" */
    private static void darkJustThen() {
        ThumbOut x = ride(60, 7);
        x.set(1, 40);
        byDark("just then", x, 33, 5, 1, 1);
        byDark("a minute later", x, 34, 5, 0, 1);
        byDark("at the goal just then", x, 10040, 5, 1, 1);
        byDark("at the goal a minute later", x, 10041, 5, 0, 1);
        x.set(1, 0);
        byDark("dark at 0", x, 10000, 5, 1, 1);
        byDark("dark at 0", x, 10001, 5, 0, 1);
        x.set(1, 1439);
        byDark("the latest dark", x, 1432, 5, 1, 1);
        byDark("beyond the day", x, 1433, 5, 0, 1);
        due("19: dark is 1200 at first", ride(60, 7).dark(1193, 1, 0), 1);
        due("19: dark is 1200 at first", ride(60, 7).dark(1194, 1, 0), 0);
    }

    /** A ride by a car that stops by the first few seeds alone, in minute 60. */
    private static ThumbOut firstFew(int few) {
        ThumbOut x = ride(1, 7);
        Check.force(x, "(h=1)*500");
        x.set(5, Check.seed(0, 1, 500 * 256 - few));
        return x;
    }

    /** "in how many of n SEEDS"; "likewise": SEED and each 1 more, in lowest terms. */
    private static void darkOfSeeds() {
        for (int few = 1; few <= 39; few += 2) {
            ThumbOut x = firstFew(few);
            for (int n = 1; n <= 40; n++) {
                int hits = Math.min(few, n);
                int common = n;
                while (hits % common != 0 || n % common != 0) {
                    common--;
                }
                byDark("the first " + few + " of " + n, x, 3, n, hits / common, n / common);
            }
        }
        byDark("2 of 4", firstFew(2), 3, 4, 1, 2);
        byDark("24 of 36", firstFew(24), 3, 36, 2, 3);
        byDark("40 of 40", firstFew(40), 3, 40, 1, 1);
        ThumbOut x = firstFew(1);
        x.set(5, Check.seed(0, 1, 256000));
        byDark("not by the seed before", x, 3, 40, 1, 1);
        x.set(5, Check.seed(0, 1, 255999));
        byDark("by all but the first", x, 3, 40, 39, 40);
    }

    /** "(0 by 1, if none)" */
    private static void darkNone() {
        ThumbOut x = ride(60, 7);
        x.set(1, 39);
        for (int n = 1; n <= 40; n++) {
            byDark("none of " + n, x, 33, n, 0, 1);
        }
        x.set(0, 7);
        byDark("never", x, 0, 40, 0, 1);
    }

    /** "BAD" */
    private static void darkBad() {
        ThumbOut x = ride(60, 7);
        for (int pm : NO_MOMENTS) {
            due("19: dark(" + pm + ", 1, 0)", x.dark(pm, 1, 0), BAD);
        }
        int[] ns = {0, -1, 41, 42, LOW, HIGH};
        for (int n : ns) {
            due("19: dark(0, " + n + ", 0)", x.dark(0, n, 0), BAD);
            due("19: dark(0, " + n + ", 1)", x.dark(0, n, 1), BAD);
        }
        int[] parts = {-1, 2, 3, LOW, HIGH};
        for (int part : parts) {
            due("19: dark(0, 1, " + part + ")", x.dark(0, 1, part), BAD);
        }
        byDark("one seed", x, 0, 1, 1, 1);
        byDark("40 seeds", x, 0, 40, 1, 1);
    }

    /** From 0 to the goal 2 by road 0, or by 1 on roads 1 and 2; all cars stop. */
    private static ThumbOut twoWays(int direct, int first, int second) {
        ThumbOut x = Check.places(3);
        x.road(2, 60, 100 * direct + 1);
        x.road(1, 60, 100 * first + 2);
        x.road(12, 60, 100 * second + 3);
        x.set(0, 2);
        return Check.force(x, "1000");
    }

    private static void signs(String call, ThumbOut x, int pm, int sign, int when) {
        due("20: " + call + ", that", x.sign(pm, 0), sign);
        due("20: " + call + ", when", x.sign(pm, 1), when);
    }

    /** "that (..) with which one ARRIVES earliest (never is latest ..)"; "(1; NOT: never)" */
    private static void signNeverIsLatest() {
        ThumbOut x = twoWays(90, 20, 30);
        Check.rule(x, "s");
        signs("one alone arrives", x, 100, 2, 190);
        signs("from another place", x, 10100, 2, 130);
        Check.rule(x, "s|d=3");
        signs("the earlier of two", x, 100, 1, 150);
        Check.rule(x, "s&d=2");
        signs("always never", x, 100, -1, NOT);
        Check.rule(x, "s&d=2|!s&d=3");
        signs("by two roads", x, 100, 1, 150);
        Check.rule(x, "!s");
        signs("without a sign", x, 100, -1, 190);
        x.set(4, 2);
        signs("whatever is on the sign", x, 100, -1, 190);
        due("20: it stays there", x.goes(100, -1), NOT);
        due("20: it stays there", x.set(4, -1), 2);
        signs("at the goal", x, 21439, -1, 1439);
    }

    /** "of like ones the first" */
    private static void signFirstOfLikeOnes() {
        ThumbOut x = twoWays(50, 20, 30);
        Check.rule(x, "1");
        signs("all alike", x, 100, -1, 150);
        Check.rule(x, "s|d=3");
        signs("1 and 2 alike", x, 100, 1, 150);
        ThumbOut y = twoWays(49, 20, 30);
        Check.rule(y, "s|d=3");
        signs("the later one by one earlier", y, 100, 2, 149);
        ThumbOut z = twoWays(51, 20, 30);
        Check.rule(z, "s|d=3");
        signs("the later one by one later", z, 100, 1, 150);
    }

    /** "(-1, then PLACES there are)" */
    private static void signOfPlacesThereAre() {
        for (int n = 2; n <= 8; n++) {
            ThumbOut x = Check.places(n);
            x.road(n - 1, 60, 700);
            x.set(0, n - 1);
            Check.force(x, "s*1000");
            signs("the last of " + n, x, 3, n - 1, 10);
        }
        ThumbOut x = Check.places(2);
        x.road(10, 60, 700);
        Check.force(x, "s*1000");
        signs("the first", x, 10003, 0, 10);
    }

    /** "and 20 s more": without a law a sign alone makes a car stop. */
    private static void signByTheHabit() {
        ThumbOut x = ride(1, 7);
        x.force(-1);
        int due = 0;
        for (int j = 0; j < 24; j++) {
            due += x.car(0, j, 1) < 80 ? 1 : 0;
        }
        x.set(4, 1);
        int stops = 0;
        for (int j = 0; j < 24; j++) {
            stops += x.car(0, j, 2);
        }
        due("13: stops by the sign", stops, due);
        x.set(4, -1);
        Check.draw(x, 0, 23, 79);
        signs("a draw just below", x, 1380, 1, 1387);
        Check.draw(x, 0, 23, 59);
        signs("a draw below without it too", x, 1380, -1, 1387);
        Check.draw(x, 0, 23, 80);
        signs("a draw not below", x, 1380, -1, NOT);
    }

    /** "VOID: BAD." */
    private static void signVoid() {
        ThumbOut x = ride(60, 7);
        for (int pm : NO_MOMENTS) {
            due("20: sign(" + pm + ", 0)", x.sign(pm, 0), VOID);
            due("20: sign(" + pm + ", 1)", x.sign(pm, 1), VOID);
        }
        int[] whats = {-1, 2, 3, LOW, HIGH};
        for (int what : whats) {
            due("20: sign(0, " + what + ")", x.sign(0, what), VOID);
        }
    }

    /** Two roads to the goal, in whose cars of one minute one gets in that order. */
    private static ThumbOut twoRoads(int minutes, int other) {
        ThumbOut x = ride(60, minutes);
        x.road(1, 60, 100 * other);
        return x;
    }

    /** "whether one ARRIVES no later by getting in than by waiting for the next" */
    private static void inNoLater() {
        due("21: earlier", twoRoads(10, 10).in(1, 33), 1);
        due("21: alike", twoRoads(10, 11).in(1, 33), 1);
        due("21: later", twoRoads(10, 12).in(1, 33), 0);
        due("21: much later", twoRoads(10, 300).in(1, 33), 0);
        due("21: the first of the day", twoRoads(10, 11).in(1, 0), 1);
        due("21: the last but one", twoRoads(10, 12).in(1, 1438), 0);
        due("21: the last of the day", twoRoads(10, 300).in(1, 1439), 1);
    }

    /** "(from the MINUTE behind it on ..)": other cars of its own minute are past, too. */
    private static void inFromTheMinuteBehind() {
        ThumbOut x = Check.places(2);
        x.road(1, 1, 1000);
        x.road(1, 1, 5000);
        x.road(1, 60, 4900);
        x.set(0, 1);
        Check.force(x, "(h=5)*1000");
        due("21: none of its own minute", x.in(1, 5), 1);
        x.road(1, 60, 100);
        due("21: in by roads ahead", x.in(1, 5), 1);
        Check.rule(x, "m>0|h>5");
        due("21: waiting counts from there", x.in(1, 5), 1);
        ThumbOut y = Check.places(2);
        y.road(1, 60, 4800);
        y.road(1, 1, 5000);
        y.set(0, 1);
        Check.force(y, "1000");
        due("21: the very next car is earlier by one", y.in(1, 5), 0);
        y.road(1, 1, 4900);
        due("21: alike", y.in(2, 5), 1);
    }

    /** "(.. never is latest; both never: 0)" */
    private static void inNeverIsLatest() {
        ThumbOut x = Check.places(3);
        x.road(1, 2, 1000);
        x.road(2, 2, 1000);
        x.set(0, 1);
        Check.force(x, "1000");
        due("21: waiting is never", x.in(0, 47), 1);
        due("21: riding is never", x.in(1, 3), 0);
        due("21: both never", x.in(1, 47), 0);
        due("21: neither never", x.in(0, 46), 1);
        x.set(0, 7);
        due("21: both never, no such goal", x.in(0, 3), 0);
    }

    /** At GOAL waiting ARRIVES at once, in the minute behind the car. */
    private static void inAtTheGoal() {
        ThumbOut x = Check.places(3);
        x.road(1, 60, 100);
        x.road(10, 60, 100);
        x.road(2, 60, 100);
        x.set(0, 0);
        Check.force(x, "1000");
        due("21: away and back again", x.in(0, 5), 0);
        due("21: away for ever", x.in(2, 5), 0);
        due("21: to the goal, in the day's last minute", x.in(1, 1439), 1);
        due("21: from the goal, in the day's last minute", x.in(0, 1439), 0);
    }

    /** "STATE: the car does not STOP." */
    private static void inState() {
        ThumbOut x = ride(60, 7);
        Check.force(x, "500");
        Check.draw(x, 0, 33, 499);
        due("21: it stops", x.in(0, 33), 1);
        Check.draw(x, 0, 33, 500);
        due("21: it does not", x.in(0, 33), STATE);
        Check.force(x, "1000");
        Check.rule(x, "0");
        due("21: it stops, whatever the rule says", x.in(0, 33), 1);
        Check.force(x, "0");
        due("21: none stops", x.in(0, 33), STATE);
    }

    /** "BAD": no such ROAD or car, of several ahead of STATE. */
    private static void inBad() {
        ThumbOut x = ride(2, 7);
        String[] laws = {"1000", "0"};
        for (String law : laws) {
            Check.force(x, law);
            int[] roads = {-1, 1, 2, 15, 16, LOW, HIGH};
            for (int road : roads) {
                due("21: in(" + road + ", 0)", x.in(road, 0), BAD);
            }
            int[] cars = {-1, -2, 48, 49, 1440, LOW, HIGH};
            for (int j : cars) {
                due("21: in(0, " + j + ")", x.in(0, j), BAD);
            }
        }
    }

    private static void walks(String call, ThumbOut x, int pm, int place, int when) {
        due("22: " + call + ", where", x.walks(pm, 0), place);
        due("22: " + call + ", when", x.walks(pm, 1), when);
    }

    /** "PLACES to which a WALK leads, and this one (0 minutes)" */
    private static void walksToThisOne() {
        ThumbOut x = twoWays(90, 20, 30);
        walks("no walks", x, 103, 0, 193);
        walks("at the goal", x, 20103, 2, 103);
        walks("at the goal, at 0", x, 20000, 2, 0);
        x.walk(1, 61);
        walks("a walk that is too long", x, 103, 0, 193);
        x.walk(1, 59);
        walks("a walk that is not", x, 103, 1, 192);
        x.walk(2, 88);
        walks("a walk to the goal", x, 103, 2, 191);
        x.walk(20, 0);
        walks("none any more", x, 103, 1, 192);
    }

    /** "(of like ones the least)" */
    private static void walksLeastOfLikeOnes() {
        ThumbOut x = twoWays(90, 20, 30);
        x.walk(1, 60);
        walks("this one and 1", x, 103, 0, 193);
        x.walk(2, 90);
        walks("this one, 1 and 2", x, 103, 0, 193);
        ThumbOut y = twoWays(10, 20, 30);
        y.walk(1, 20);
        walks("0 and this one", y, 10103, 0, 133);
        y.walk(12, 30);
        walks("0, this one and 2", y, 10103, 0, 133);
        y.walk(1, 21);
        walks("this one and 2", y, 10103, 1, 133);
        y.walk(12, 29);
        walks("2 alone", y, 10103, 2, 132);
    }

    /** "PLACES to which a WALK leads": one walk, not two; either way. */
    private static void walksOneWalk() {
        ThumbOut x = twoWays(92, 90, 90);
        x.walk(1, 1);
        x.walk(12, 1);
        walks("not by two walks", x, 103, 1, 194);
        walks("one walk", x, 10103, 2, 104);
        ThumbOut y = Check.places(4);
        y.set(0, 3);
        y.walk(32, 5);
        y.walk(12, 5);
        walks("the other way", y, 20103, 3, 108);
        walks("two of them", y, 10103, NOT, NOT);
    }

    /** "(after the WALK)": MINUTES may go beyond 1439. */
    private static void walksBeyondTheDay() {
        ThumbOut x = ride(60, 7);
        x.walk(1, 300);
        walks("riding in the last minute", x, 1439, 0, 1446);
        Check.force(x, "0");
        walks("on foot in the last minute", x, 1439, 1, 1739);
        ThumbOut y = twoWays(90, 20, 30);
        Check.rule(y, "d>1");
        y.mend(1, 1, 1);
        y.walk(1, 58);
        walks("by the last car from here", y, 1380, 0, 1430);
        walks("on foot to the last car from there", y, 1381, 1, 1469);
        walks("one minute later there is none", y, 1382, NOT, NOT);
        walks("behind all cars", y, 1439, NOT, NOT);
    }

    /** "NOT: never." */
    private static void walksNot() {
        ThumbOut x = ride(1, 7);
        walks("the last car", x, 1380, 0, 1387);
        walks("behind the last car", x, 1381, NOT, NOT);
        x.set(0, 7);
        walks("no such goal", x, 0, NOT, NOT);
        x.walk(1, 5);
        walks("no such goal", x, 0, NOT, NOT);
    }

    /** "BAD" */
    private static void walksBad() {
        ThumbOut x = ride(60, 7);
        x.walk(1, 5);
        for (int pm : NO_MOMENTS) {
            due("22: walks(" + pm + ", 0)", x.walks(pm, 0), BAD);
            due("22: walks(" + pm + ", 1)", x.walks(pm, 1), BAD);
        }
        int[] whats = {-1, 2, 3, LOW, HIGH};
        for (int what : whats) {
            due("22: walks(0, " + what + ")", x.walks(0, what), BAD);
        }
    }

    private static void begins(String call, ThumbOut x, int place, int hour, int minutes) {
        due("23: " + call + ", hour", x.begin(place, 0), hour);
        due("23: " + call + ", how long", x.begin(place, 1), minutes);
    }

    /** "(of like ones the first)" */
    private static void beginFirstOfLikeOnes() {
        ThumbOut x = ride(60, 7);
        begins("all alike", x, 0, 0, 7);
        Check.force(x, "(h>3)*1000");
        begins("from 4 on alike", x, 0, 4, 7);
        Check.force(x, "(h=9|h=20)*1000");
        begins("two alike", x, 0, 9, 7);
        begins("at the goal", x, 1, 0, 0);
    }

    /** "from which it takes least till one ARRIVES" */
    private static void beginTakesLeast() {
        ThumbOut x = Check.places(2);
        x.road(1, 60, 5001);
        x.road(1, 60, 4902);
        x.set(0, 1);
        Check.force(x, "(h=2&d=1|h=23&d=2)*1000");
        begins("the later one by one less", x, 0, 23, 49);
        Check.force(x, "(h=2&d=2|h=23&d=1)*1000");
        begins("the later one by one more", x, 0, 2, 49);
        Check.force(x, "(h=0&d=1|h=1&d=2|h=2&d=1)*1000");
        begins("the one between", x, 0, 1, 49);
        Check.force(x, "(h=0&d=2|h=1&d=1|h=2&d=1)*1000");
        begins("the first", x, 0, 0, 49);
        ThumbOut y = ride(1, 7);
        Check.force(y, "(h=5)*1000");
        begins("in its hour", y, 0, 5, 7);
        Check.rule(y, "m>59");
        begins("an hour ahead", y, 0, 4, 67);
        Check.rule(y, "m=300");
        begins("five hours ahead", y, 0, 0, 307);
    }

    /** "of full hours 0 .. 23" */
    private static void beginFullHours() {
        for (int hour = 0; hour < 24; hour++) {
            ThumbOut x = ride(60, 300);
            Check.force(x, "(h=" + hour + ")*1000");
            begins("hour " + hour, x, 0, hour, 300);
        }
    }

    /** "NOT" */
    private static void beginNot() {
        ThumbOut x = ride(60, 7);
        Check.force(x, "0");
        begins("none stops", x, 0, NOT, NOT);
        x.set(0, 7);
        begins("no such goal", x, 0, NOT, NOT);
        begins("no roads from there", x, 1, NOT, NOT);
    }

    /** "BAD" */
    private static void beginBad() {
        ThumbOut x = ride(60, 7);
        int[] places = {-1, 2, 3, 7, 8, 10000, LOW, HIGH};
        for (int place : places) {
            due("23: begin(" + place + ", 0)", x.begin(place, 0), BAD);
            due("23: begin(" + place + ", 1)", x.begin(place, 1), BAD);
        }
        int[] whats = {-1, 2, 3, LOW, HIGH};
        for (int what : whats) {
            due("23: begin(0, " + what + ")", x.begin(0, what), BAD);
        }
        due("23: without places", new ThumbOut().begin(0, 0), BAD);
    }

    /** "APART: the later of the MINUTES at which one (PERSONS 1) ARRIVES by SEED and by SEED + 1" */
    private static void twoApart() {
        ThumbOut x = ride(1, 7);
        Check.force(x, "(h=1)*500+(h=2)*1000");
        x.set(5, Check.seed(0, 1, 500 * 256 - 1));
        due("24: the second is later", x.two(3, 0), 127);
        due("24: together by the first seed", x.two(3, 1), 67);
        x.set(5, Check.seed(0, 1, 500 * 256 - 2));
        due("24: both early", x.two(3, 0), 67);
        x.set(5, Check.seed(0, 1, 500 * 256));
        due("24: both late", x.two(3, 0), 127);
        x.set(5, Check.seed(0, 1, 256000 - 1));
        due("24: the first is later", x.two(3, 0), 127);
        due("24: together by the first seed", x.two(3, 1), 127);
        x.set(5, Check.seed(0, 1, 256000));
        due("24: not the seed before", x.two(3, 0), 67);
        due("24: both from that minute on", x.two(61, 0), 127);
        due("24: both behind the last car", x.two(181, 0), NOT);
        x.set(2, 2);
        Check.force(x, "(t=1)*1000");
        due("24: as one", x.two(3, 0), 67);
        due("24: persons stay", x.set(2, 2), 2);
    }

    /** "TOGETHER: with PERSONS 2 by SEED" */
    private static void twoTogether() {
        ThumbOut x = ride(1, 7);
        x.force(-1);
        Check.draw(x, 0, 23, 29);
        due("24: a draw below half", x.two(1380, 1), 1387);
        Check.draw(x, 0, 23, 30);
        due("24: a draw not below half", x.two(1380, 1), NOT);
        due("24: apart it is below", x.two(1380, 0), 1387);
        x.set(2, 2);
        due("24: apart whatever is set", x.two(1380, 0), 1387);
        Check.draw(x, 0, 23, 59);
        due("24: apart just below", x.two(1380, 0), 1387);
        Check.draw(x, 0, 23, 60);
        due("24: apart not below", x.two(1380, 0), NOT);
        x.set(2, 1);
        Check.force(x, "(t=2)*1000");
        due("24: as two", x.two(1380, 1), 1387);
        due("24: persons stay", x.set(2, 1), 1);
    }

    /** "NOT: never." */
    private static void twoNot() {
        ThumbOut x = ride(1, 7);
        Check.force(x, "(h=1)*500");
        x.set(5, Check.seed(0, 1, 500 * 256 - 1));
        due("24: the second never", x.two(3, 0), NOT);
        due("24: together by the first", x.two(3, 1), 67);
        x.set(5, Check.seed(0, 1, 256000 - 1));
        due("24: the first never", x.two(3, 0), NOT);
        due("24: together never", x.two(3, 1), NOT);
        x.set(5, Check.seed(0, 1, 500 * 256));
        due("24: both never", x.two(3, 0), NOT);
        due("24: at the goal", x.two(11439, 0), 1439);
        due("24: at the goal", x.two(11439, 1), 1439);
    }

    /** "SEED + 1": behind the last int comes the first. */
    private static void twoSeedsThatWrap() {
        for (int j = 0; j < 1440; j += 97) {
            ThumbOut x = ride(60, 7);
            Check.force(x, "500");
            x.set(5, LOW);
            int later = x.goes(j, -1);
            x.set(5, HIGH);
            due("24: from the last int on", x.two(j, 0), both(x.goes(j, -1), later));
        }
    }

    private static int both(int one, int other) {
        return one == NOT || other == NOT ? NOT : Math.max(one, other);
    }

    /** "BAD" */
    private static void twoBad() {
        ThumbOut x = ride(60, 7);
        for (int pm : NO_MOMENTS) {
            due("24: two(" + pm + ", 0)", x.two(pm, 0), BAD);
            due("24: two(" + pm + ", 1)", x.two(pm, 1), BAD);
        }
        int[] whats = {-1, 2, 3, LOW, HIGH};
        for (int what : whats) {
            due("24: two(0, " + what + ")", x.two(0, what), BAD);
        }
    }

    /** "VOID: BAD", of several ahead of -11, -12, -13. */
    private static void bookVoid() {
        ThumbOut x = ride(60, 7);
        x.row(1, 2, 2);
        x.row(2, 2, 1);
        x.row(3, 1, 2);
        int[] shelves = {-1, 6, 7, LOW, HIGH};
        for (int shelf : shelves) {
            due("25: book(" + shelf + ", 0, 0)", x.book(shelf, 0, 0), VOID);
        }
        int[] minutes = {-1, 1440, 1441, LOW, HIGH};
        int[] whats = {-1, 2, 3, LOW, HIGH};
        for (int shelf = 0; shelf < 4; shelf++) {
            for (int minute : minutes) {
                due("25: book(" + shelf + ", " + minute + ", 0)", x.book(shelf, minute, 0), VOID);
            }
            for (int what : whats) {
                due("25: book(" + shelf + ", 0, " + what + ")", x.book(shelf, 0, what), VOID);
            }
        }
        due("25: the last minute", x.book(1, 1439, 1), 1440);
        due("25: the first minute", x.book(1, 0, 0), 0);
    }

    /** "-11, -12 (no ROW of ints), -13 (it has fewer than there are PLACES)" */
    private static void bookRefused() {
        ThumbOut x = ride(60, 7);
        x.body(0);
        for (int what = 0; what <= 1; what++) {
            x.keep(0, -1);
            due("25: nothing there", x.book(0, 0, what), -11);
            x.keep(0, 0);
            due("25: a body", x.book(0, 0, what), -12);
            for (int sort = 0; sort <= 4; sort++) {
                x.row(0, sort, 2);
                due("25: a row of sort " + sort, x.book(0, 0, what) == -12 ? 1 : 0, sort == 2 ? 0 : 1);
                x.row(0, sort, 1);
                due("25: a shorter row of sort " + sort, x.book(0, 0, what), sort == 2 ? -13 : -12);
            }
            x.row(0, 2, 0);
            due("25: an empty row", x.book(0, 0, what), -13);
        }
    }

    /** "-13 (it has fewer than there are PLACES)": as many do, and more. */
    private static void bookOfAsManyAsPlaces() {
        for (int n = 0; n <= 8; n++) {
            ThumbOut x = Check.places(n);
            for (int size = 0; size <= 10; size++) {
                x.row(5, 2, size);
                due("25: " + size + " waits of " + n, x.book(5, 0, 0), size < n ? -13 : -1);
                due("25: off of " + size + " waits of " + n, x.book(5, 0, 1), size < n ? -13 : 1440 * n);
            }
        }
        ThumbOut x = ride(60, 7);
        Check.row(x, 0, 2, 0, 1440, 7, 9, LOW);
        due("25: further ones tell nothing", x.book(0, 3, 1), 0);
        due("25: none at all", new ThumbOut().book(0, 0, 0), -11);
    }

    /** "told (held within 0 .. 1440) less WAIT (1440 for NOT)" */
    private static void bookHeld() {
        int[] told = {0, 1, -1, LOW, 9, 10, 11, 1439, 1440, 1441, HIGH};
        for (int one : told) {
            for (int other : told) {
                ThumbOut x = ride(1, 7);
                Check.row(x, 0, 2, one, other);
                int byLaw = Math.abs(held(one) - 10) + Math.abs(held(other) - 1440);
                int without = Math.abs(held(one) - waitWithout(x)) + Math.abs(held(other) - 1440);
                String call = " of " + one + " and " + other;
                due("25: off" + call, x.book(0, 50, 1), Math.min(byLaw, without));
                due("25: law" + call, x.book(0, 50, 0), byLaw < without ? 0 : -1);
            }
        }
    }

    private static int held(int told) {
        return Math.max(0, Math.min(1440, told));
    }

    private static int waitWithout(ThumbOut x) {
        x.force(-1);
        int wait = x.waits(0, 50);
        return wait == NOT ? 1440 : wait;
    }

    /** "of LAWS (none, too: -1) the one with the least OFF .. (none first, then by numbers)" */
    private static void bookNoneFirst() {
        ThumbOut x = ride(1, 7);
        Check.row(x, 0, 2, 10, 1440);
        due("25: the one law", x.book(0, 50, 0), 0);
        Check.law(x, "1000");
        due("25: of two alike the first", x.book(0, 50, 0), 0);
        Check.row(x, 0, 2, 70, 1440);
        Check.law(x, "(h=2)*1000");
        Check.law(x, "(h=2)*1000");
        due("25: the third", x.book(0, 50, 0), 2);
        due("25: its off", x.book(0, 50, 1), 0);
        Check.row(x, 0, 2, 40, 1440);
        due("25: off to both sides alike", x.book(0, 50, 0), 0);
        due("25: its off", x.book(0, 50, 1), 30);
        x.force(2);
        due("25: whatever is in force", x.book(0, 50, 0), 0);
        due("25: that stays", x.force(-1), 2);
        ThumbOut y = Check.places(2);
        Check.law(y, "1000");
        y.row(0, 2, 2);
        due("25: alike with none, none is first", y.book(0, 50, 0), -1);
        ThumbOut z = ride(60, 7);
        z.mend(0, 0, 0);
        z.set(2, 2);
        z.set(3, 1);
        Check.law(z, "0");
        Check.row(z, 0, 2, 1440, 1440);
        due("25: none stops without and by law 1", z.book(0, 0, 0), -1);
    }

    /** "BOOK .. from a MINUTE on": by what is set now, also as the first call that asks. */
    private static void bookByWhatIsSet() {
        ThumbOut x = Check.places(2);
        x.road(1, 60, 700);
        Check.row(x, 0, 2, 0, 1440);
        Check.draw(x, 0, 33, 65);
        due("25: without a sign", x.book(0, 33, 1) > 0 ? 1 : 0, 1);
        x.set(4, 1);
        due("25: with a sign", x.book(0, 33, 1), 0);
        x.set(2, 2);
        due("25: of two", x.book(0, 33, 1) > 0 ? 1 : 0, 1);
        x.set(2, 1);
        x.set(5, 1);
        int wait = x.book(0, 33, 1);
        due("25: by another seed", wait, x.waits(0, 33));
        ThumbOut y = Check.places(2);
        y.road(1, 60, 700);
        Check.row(y, 0, 2, 0, 1440);
        y.set(3, 1);
        y.set(4, 1);
        Check.draw(y, 0, 33, 74);
        due("25: wet", y.book(0, 33, 1), 0);
        ThumbOut z = Check.places(2);
        z.road(1, 60, 700);
        Check.row(z, 0, 2, 0, 1440);
        z.set(3, 1);
        z.set(4, 1);
        Check.draw(z, 0, 33, 75);
        due("25: too wet", z.book(0, 33, 1) > 0 ? 1 : 0, 1);
    }

    /** "the least DANGER (0 .. 99)" */
    private static void safeFromLeastToMost() {
        for (int danger = 0; danger <= 99; danger++) {
            ThumbOut x = ride(60, 7);
            x.mend(0, 2, danger);
            due("26: danger " + danger, x.safe(3, 1), danger);
            x.road(1, 60, 700 + 99 - danger);
            due("26: of two roads", x.safe(3, 1), Math.min(danger, 99 - danger));
        }
        ThumbOut x = twoWays(90, 20, 30);
        due("26: the less dangerous way", x.safe(3, 1), 1);
        x.mend(0, 2, 4);
        due("26: the way by two", x.safe(3, 1), 3);
        x.mend(1, 2, 50);
        due("26: its first road is the worse", x.safe(3, 1), 4);
        x.set(1, 92);
        due("26: with all roads open one goes the longer way", x.goes(3, -1), 93);
        due("26: that is not by dark", x.safe(3, 1), NOT);
        x.set(1, 93);
        due("26: that is by dark", x.safe(3, 1), 4);
    }

    /** "with which, ROADS of more DANGER never got in": whatever THE RULE says; FAR is as ever. */
    private static void safeNeverGotIn() {
        ThumbOut x = twoWays(10, 20, 30);
        x.mend(0, 2, 60);
        Check.rule(x, "1");
        due("26: by the rule", x.safe(3, 1), 3);
        Check.rule(x, "d=60");
        due("26: the rule and the danger", x.safe(3, 1), 60);
        Check.rule(x, "d<60");
        due("26: the other roads", x.safe(3, 1), 3);
        Check.rule(x, "d=60|d=2");
        due("26: into a dead end by less", x.safe(3, 1), 60);
        Check.rule(x, "b=10&a<99|a=0");
        due("26: far by roads not got in, too", x.safe(3, 1), 3);
        ThumbOut y = twoWays(10, 20, 30);
        y.mend(0, 2, 60);
        due("26: without a rule 1 is no nearer", y.safe(3, 1), 60);
        due("26: danger is as it was", y.of(0, 13), 60);
        due("26: and is got in", y.goes(3, -1), 13);
    }

    /** "one ARRIVES no later than DARK"; "NOT" */
    private static void safeByDark() {
        ThumbOut x = ride(60, 7);
        x.mend(0, 2, 5);
        x.set(1, 40);
        due("26: just then", x.safe(33, 3), 5);
        due("26: a minute later", x.safe(34, 3), NOT);
        due("26: at the goal", x.safe(10040, 3), 0);
        due("26: at the goal a minute later", x.safe(10041, 3), NOT);
        x.set(0, 7);
        due("26: no such goal", x.safe(3, 3), NOT);
        ThumbOut y = twoWays(10, 20, 30);
        y.mend(0, 2, 60);
        Check.rule(y, "1");
        y.set(1, 53);
        due("26: the roundabout way just then", y.safe(3, 1), 3);
        y.set(1, 52);
        due("26: then by the other", y.safe(3, 1), 60);
        y.set(1, 12);
        due("26: by none", y.safe(3, 1), NOT);
    }

    /** "in each of n SEEDS" */
    private static void safeInEachSeed() {
        for (int few = 1; few <= 40; few++) {
            ThumbOut x = firstFew(few);
            x.mend(0, 2, 7);
            due("26: " + few + " seeds", x.safe(3, few), 7);
            if (few < 40) {
                due("26: one more than " + few, x.safe(3, few + 1), NOT);
                due("26: 40 seeds", x.safe(3, 40), NOT);
            }
            due("6: the seed stays", x.set(5, 0), Check.seed(0, 1, 500 * 256 - few));
        }
        ThumbOut x = firstFew(1);
        x.set(5, Check.seed(0, 1, 256000));
        due("26: not the seed before", x.safe(3, 40), 0);
        x.set(5, Check.seed(0, 1, 256000 - 1));
        due("26: not the first", x.safe(3, 40), NOT);
        x.set(5, Check.seed(0, 1, 256000 - 39));
        due("26: only the last of 40", x.safe(3, 40), NOT);
    }

    /** "BAD" */
    private static void safeBad() {
        ThumbOut x = ride(60, 7);
        for (int pm : NO_MOMENTS) {
            due("26: safe(" + pm + ", 1)", x.safe(pm, 1), BAD);
        }
        int[] ns = {0, -1, 41, 42, LOW, HIGH};
        for (int n : ns) {
            due("26: safe(0, " + n + ")", x.safe(0, n), BAD);
        }
        due("26: 40 seeds", x.safe(0, 40), 0);
    }

    /** "PLACES (bits) from which no ROADS lead to GOAL" */
    private static void neverBits() {
        for (int n = 0; n <= 8; n++) {
            ThumbOut x = Check.places(n);
            for (int goal = 0; goal < 8; goal++) {
                x.set(0, goal);
                int all = (1 << n) - 1;
                due("27: " + n + " places, goal " + goal, x.never(), goal < n ? all - (1 << goal) : all);
            }
        }
        ThumbOut x = Check.places(8);
        x.set(0, 7);
        for (int a = 6; a >= 0; a--) {
            x.road(11 * a + 1, 1, 30099);
            due("27: from " + a + " on they lead there", x.never(), (1 << a) - 1);
        }
        x.walk(7, 5);
        x.set(0, 0);
        due("27: not back, nor on foot", x.never(), 254);
        x.road(70, 1, 100);
        due("27: round", x.never(), 0);
        Check.rule(x, "0");
        Check.force(x, "0");
        due("27: whatever stops and takes one along", x.never(), 0);
    }
}
