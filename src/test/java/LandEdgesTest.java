/** Each sentence on places, roads, walks, settings and changes that names an edge: promises 1 to 3, 5 to 8, 14, 28, 29. */
public final class LandEdgesTest {
    private static final Check CHECK = new Check("LandEdgesTest");
    private static final int BAD = ThumbOut.BAD;
    private static final int FULL = ThumbOut.FULL;
    private static final int STATE = ThumbOut.STATE;
    private static final int VOID = ThumbOut.VOID;
    private static final int LOW = Integer.MIN_VALUE;
    private static final int HIGH = Integer.MAX_VALUE;

    public static void main(String[] args) {
        noPlaces();
        firstSettings();
        placesAsTheyCome();
        rooms();
        pumps();
        badAheadOfFullPlaces();
        roadsAsTheyCome();
        roadsToAnotherPlace();
        roadsOfPlacesThatAreThere();
        flows();
        longs();
        dangers();
        badAheadOfFullRoads();
        walksAtFirst();
        walksEitherWay();
        walkMinutes();
        walksOfUnlikePlaces();
        settingsFromTo();
        settingsOfNoNumber();
        goalThatIsNotThere();
        anySeed();
        mendRoom();
        mendFlow();
        mendDanger();
        mendNothingElse();
        ofPlaces();
        ofRoads();
        carsOfRoads();
        farAlike();
        farNone();
        farLeast();
        farOneWay();
        farBad();
        undoNone();
        undoLatestFirst();
        redoNone();
        redoUnlessAnotherCame();
        undoneAsItWas();
        fortyChanges();
        onlyMendsAreChanges();
        CHECK.end();
    }

    private static void due(String call, long got, long want) {
        CHECK.due(call, got, want);
    }

    /** "ThumbOut(): No places." */
    private static void noPlaces() {
        ThumbOut x = new ThumbOut();
        for (int what = 0; what <= 6; what++) {
            due("1: count(" + what + ")", x.count(what), 0);
        }
        due("1: of(0, 0)", x.of(0, 0), BAD);
        due("1: of(0, 10)", x.of(0, 10), BAD);
        due("1: far(0)", x.far(0), BAD);
        due("1: waits(0, 0)", x.waits(0, 0), BAD);
        due("1: goes(0, -1)", x.goes(0, -1), BAD);
        due("1: begin(0, 0)", x.begin(0, 0), BAD);
        due("1: never()", x.never(), 0);
        due("1: another object has its own", Check.places(1).count(0) + x.count(0), 1);
    }

    /** "GOAL (.. 0 at first ..), DARK (.. 1200 at first), PERSONS (.. 1 at first), WET (.. 0 at first), SIGN (.. -1, at first), SEED (.. 0 at first)" */
    private static void firstSettings() {
        int[] first = {0, 1200, 1, 0, -1, 0};
        for (int what = 0; what < 6; what++) {
            due("6: set(" + what + ", 1) at first", new ThumbOut().set(what, 1), first[what]);
        }
        due("12: none at first", new ThumbOut().force(-1), -1);
    }

    /** "PLACES 0 .. 7, as they come"; "its number. BAD, FULL: 8." */
    private static void placesAsTheyCome() {
        ThumbOut x = new ThumbOut();
        for (int i = 0; i < 8; i++) {
            due("2: place " + i, x.place(10 * i + i % 2), i);
            due("2: count(0)", x.count(0), i + 1);
        }
        due("2: a ninth", x.place(0), FULL);
        due("2: a tenth", x.place(91), FULL);
        due("2: count(0)", x.count(0), 8);
        due("2: no place 8", x.of(8, 0), BAD);
        for (int i = 0; i < 8; i++) {
            due("2: room of " + i, x.of(i, 0), i);
            due("2: pumps of " + i, x.of(i, 1), i % 2);
        }
    }

    /** "ROOM (0 .. 9)"; "rp: 10 ROOM and PUMPS" */
    private static void rooms() {
        for (int room = 0; room <= 9; room++) {
            ThumbOut x = new ThumbOut();
            due("2: place(" + 10 * room + ")", x.place(10 * room), 0);
            due("2: room " + room, x.of(0, 0), room);
            due("2: no pumps", x.of(0, 1), 0);
        }
        int[] bad = {-1, -9, -10, -11, -100, 100, 101, 110, 1000, LOW, LOW + 1, HIGH, HIGH - 1};
        for (int rp : bad) {
            ThumbOut x = new ThumbOut();
            due("2: place(" + rp + ")", x.place(rp), BAD);
            due("2: none came", x.count(0), 0);
        }
    }

    /** "PUMPS (0, 1)" */
    private static void pumps() {
        for (int rp = 0; rp < 100; rp++) {
            ThumbOut x = new ThumbOut();
            due("2: place(" + rp + ")", x.place(rp), rp % 10 < 2 ? 0 : BAD);
            due("2: pumps of " + rp, x.of(0, 1), rp % 10 < 2 ? rp % 10 : BAD);
        }
    }

    /** "Answers, of several the one named first: BAD .. FULL" */
    private static void badAheadOfFullPlaces() {
        ThumbOut x = Check.places(8);
        int[] bad = {-1, 2, 9, 100, LOW, HIGH};
        for (int rp : bad) {
            due("2: full, place(" + rp + ")", x.place(rp), BAD);
        }
    }

    /** "ROADS 0 .. 15, as they come"; "its number. BAD (..), FULL: 16." */
    private static void roadsAsTheyCome() {
        ThumbOut x = Check.places(2);
        for (int i = 0; i < 16; i++) {
            due("3: road " + i, x.road(i % 2 == 0 ? 1 : 10, i + 1, 100 * (i + 1) + i), i);
            due("3: count(1)", x.count(1), i + 1);
        }
        due("3: a 17th", x.road(1, 1, 100), FULL);
        due("3: an 18th", x.road(10, 60, 30099), FULL);
        due("3: count(1)", x.count(1), 16);
        due("3: no road 16", x.of(16, 10), BAD);
        for (int i = 0; i < 16; i++) {
            due("3: ab of " + i, x.of(i, 10), i % 2 == 0 ? 1 : 10);
            due("3: flow of " + i, x.of(i, 11), i + 1);
            due("3: long of " + i, x.of(i, 12), i + 1);
            due("3: danger of " + i, x.of(i, 13), i);
        }
    }

    /** "from a PLACE to another one"; "ab: 10 times from, and to"; "BAD (from and to alike)" */
    private static void roadsToAnotherPlace() {
        for (int a = 0; a < 8; a++) {
            ThumbOut x = Check.places(8);
            for (int b = 0; b < 8; b++) {
                int ab = 10 * a + b;
                int made = a == b ? BAD : b < a ? b : b - 1;
                due("3: road(" + ab + ", ..)", x.road(ab, 1, 100), made);
                if (made >= 0) {
                    due("3: of " + ab, x.of(made, 10), ab);
                    due("14: it leads there", x.far(ab), 1);
                }
            }
            due("3: to no place 8", x.road(10 * a + 8, 1, 100), BAD);
            due("3: to no place 9", x.road(10 * a + 9, 1, 100), BAD);
            due("3: from no place 8", x.road(80 + a, 1, 100), BAD);
            due("3: from no place 10", x.road(100 + a, 1, 100), BAD);
        }
    }

    /** "BAD (-1): no such number": a road needs both its places. */
    private static void roadsOfPlacesThatAreThere() {
        ThumbOut x = new ThumbOut();
        due("3: no places", x.road(1, 1, 100), BAD);
        x.place(0);
        due("3: one place", x.road(1, 1, 100), BAD);
        due("3: one place", x.road(10, 1, 100), BAD);
        x.place(0);
        due("3: from the third", x.road(20, 1, 100), BAD);
        due("3: to the third", x.road(2, 1, 100), BAD);
        due("3: far beyond", x.road(70, 1, 100), BAD);
        due("3: far beyond", x.road(7, 1, 100), BAD);
        due("3: two places", x.road(10, 1, 100), 0);
        int[] bad = {-1, -9, -10, -11, -12, LOW, LOW + 1, HIGH, HIGH - 1};
        for (int ab : bad) {
            due("3: road(" + ab + ", 1, 100)", x.road(ab, 1, 100), BAD);
        }
        x.place(0);
        due("3: the third is there", x.road(2, 1, 100), 1);
    }

    /** "FLOW (1 .. 60 cars an hour)" */
    private static void flows() {
        ThumbOut x = Check.places(2);
        int[] bad = {0, -1, -60, 61, 62, 100, LOW, HIGH};
        for (int flow : bad) {
            due("3: flow " + flow, x.road(1, flow, 100), BAD);
        }
        due("3: flow 1", x.road(1, 1, 100), 0);
        due("3: flow 60", x.road(1, 60, 100), 1);
        due("3: least", x.of(0, 11), 1);
        due("3: most", x.of(1, 11), 60);
    }

    /** "LONG (1 .. 300 minutes)"; "ld: 100 LONG and DANGER" */
    private static void longs() {
        ThumbOut x = Check.places(2);
        int[] bad = {0, 1, 50, 99, -1, -99, -100, -101, 30100, 30101, 30199, 40000, LOW, LOW + 1, HIGH, HIGH - 1};
        for (int ld : bad) {
            due("3: ld " + ld, x.road(1, 1, ld), BAD);
        }
        due("3: long 1", x.road(1, 1, 100), 0);
        due("3: long 300", x.road(1, 1, 30000), 1);
        due("3: least", x.of(0, 12), 1);
        due("3: most", x.of(1, 12), 300);
    }

    /** "DANGER (0 .. 99)" */
    private static void dangers() {
        ThumbOut x = Check.places(2);
        due("3: danger 0", x.road(1, 1, 100), 0);
        due("3: danger 99", x.road(1, 1, 199), 1);
        due("3: danger 99 of the longest", x.road(1, 1, 30099), 2);
        int[] dangers = {0, 99, 99};
        for (int i = 0; i < 3; i++) {
            due("3: danger of " + i, x.of(i, 13), dangers[i]);
        }
    }

    /** "Answers, of several the one named first: BAD .. FULL" */
    private static void badAheadOfFullRoads() {
        ThumbOut x = Check.places(2);
        for (int i = 0; i < 16; i++) {
            x.road(1, 1, 100);
        }
        int[][] bad = {{0, 1, 100}, {11, 1, 100}, {2, 1, 100}, {-1, 1, 100}, {1, 0, 100}, {1, 61, 100}, {1, 1, 99},
            {1, 1, 30100}, {1, 1, -1}};
        for (int[] b : bad) {
            due("3: full, road(" + b[0] + ", " + b[1] + ", " + b[2] + ")", x.road(b[0], b[1], b[2]), BAD);
        }
    }

    /** "minutes (0: none, at first ..)" */
    private static void walksAtFirst() {
        for (int a = 0; a < 8; a++) {
            ThumbOut x = Check.places(8);
            for (int b = 0; b < 8; b++) {
                due("5: at first, walk(" + (10 * a + b) + ", 0)", x.walk(10 * a + b, 0), a == b ? BAD : 0);
            }
        }
    }

    /** "either way": the minutes of both orders are one. */
    private static void walksEitherWay() {
        ThumbOut x = Check.places(8);
        for (int a = 0; a < 8; a++) {
            for (int b = a + 1; b < 8; b++) {
                due("5: none yet", x.walk(10 * a + b, 10 * a + b), 0);
            }
        }
        for (int a = 0; a < 8; a++) {
            for (int b = a + 1; b < 8; b++) {
                due("5: the other way", x.walk(10 * b + a, 200 + 10 * a + b), 10 * a + b);
            }
        }
        for (int a = 0; a < 8; a++) {
            for (int b = a + 1; b < 8; b++) {
                due("5: the same way again", x.walk(10 * b + a, 100 + 10 * a + b), 200 + 10 * a + b);
            }
        }
        for (int a = 0; a < 8; a++) {
            for (int b = a + 1; b < 8; b++) {
                due("5: this way again", x.walk(10 * a + b, 0), 100 + 10 * a + b);
                due("5: none the other way", x.walk(10 * b + a, 0), 0);
            }
        }
    }

    /** "v minutes (0 .. 300; 0: none)" */
    private static void walkMinutes() {
        ThumbOut x = Check.places(2);
        due("5: 300", x.walk(1, 300), 0);
        int[] bad = {-1, -300, 301, 302, LOW, HIGH};
        for (int v : bad) {
            due("5: walk(1, " + v + ")", x.walk(1, v), BAD);
            due("5: walk(10, " + v + ")", x.walk(10, v), BAD);
        }
        due("5: 1", x.walk(1, 1), 300);
        due("5: none", x.walk(1, 0), 1);
        due("5: none was", x.walk(10, 5), 0);
    }

    /** "WALKS between two PLACES (unlike)"; "BAD (one and the same)." */
    private static void walksOfUnlikePlaces() {
        ThumbOut x = Check.places(3);
        int[] bad = {0, 11, 22, 33, 3, 30, 13, 31, 77, 7, 70, 8, 9, 100, 101, -1, -10, -12, LOW, HIGH};
        for (int ab : bad) {
            due("5: walk(" + ab + ", 5)", x.walk(ab, 5), BAD);
        }
        due("5: none of them", x.walk(1, 0) + x.walk(2, 0) + x.walk(12, 0), 0);
        x.place(0);
        due("5: the fourth is there", x.walk(3, 5), 0);
    }

    /** "GOAL (a PLACE ..), DARK (0 .. 1439 ..), PERSONS (1, 2 ..), WET (0, 1 ..), SIGN (a PLACE 0 .. 7, or -1 ..)"; "VOID: BAD." */
    private static void settingsFromTo() {
        int[][] range = {{0, 0, 7}, {1, 0, 1439}, {2, 1, 2}, {3, 0, 1}, {4, -1, 7}};
        for (int[] r : range) {
            ThumbOut x = new ThumbOut();
            x.set(r[0], r[1]);
            int[] bad = {r[1] - 1, r[1] - 2, -100, LOW, r[2] + 1, r[2] + 2, 10000, HIGH};
            for (int v : bad) {
                due("6: set(" + r[0] + ", " + v + ")", x.set(r[0], v), VOID);
            }
            due("6: set(" + r[0] + ", most)", x.set(r[0], r[2]), r[1]);
            due("6: set(" + r[0] + ", least)", x.set(r[0], r[1]), r[2]);
            due("6: set(" + r[0] + ", as it is)", x.set(r[0], r[1]), r[1]);
            for (int other = 0; other < 6; other++) {
                due("6: another stays", x.set(other, 1), other == r[0] ? r[1] : new int[] {0, 1200, 1, 0, -1, 0}[other]);
            }
        }
    }

    /** "VOID: BAD": no such number. */
    private static void settingsOfNoNumber() {
        int[] bad = {-1, -2, 6, 7, 10, LOW, HIGH};
        for (int what : bad) {
            due("6: set(" + what + ", 1)", new ThumbOut().set(what, 1), VOID);
        }
    }

    /** "GOAL (a PLACE; 0 at first, whether it is there or not ..)" */
    private static void goalThatIsNotThere() {
        ThumbOut x = new ThumbOut();
        due("6: no places at all", x.set(0, 7), 0);
        x.place(50);
        due("27: not there", x.never(), 1);
        due("18: not there", x.goes(3, -1), ThumbOut.NOT);
        x.set(0, 0);
        due("27: there", x.never(), 0);
        due("18: there", x.goes(3, -1), 3);
        x.set(0, 1);
        due("18: not there", x.goes(3, -1), ThumbOut.NOT);
        x.place(50);
        due("18: there by now", x.goes(10003, -1), 3);
    }

    /** "SEED (any int; 0 at first)" */
    private static void anySeed() {
        ThumbOut x = new ThumbOut();
        int was = 0;
        int[] seeds = {1, -1, HIGH, LOW, VOID, BAD, 0};
        for (int seed : seeds) {
            due("6: set(5, " + seed + ")", x.set(5, seed), was);
            was = seed;
        }
    }

    private static ThumbOut mended() {
        ThumbOut x = Check.places(2);
        x.road(1, 30, 4510);
        x.road(10, 20, 700);
        return x;
    }

    private static void mendBad(ThumbOut x, int number, int what, int v) {
        due("7: mend(" + number + ", " + what + ", " + v + ")", x.mend(number, what, v), BAD);
        due("7: BAD is no change", x.count(4), 0);
    }

    /** "ROOM (what 0) of a PLACE .. becomes v: what it was. BAD." */
    private static void mendRoom() {
        ThumbOut x = mended();
        int[] bad = {-1, 10, 11, LOW, HIGH};
        for (int v : bad) {
            mendBad(x, 0, 0, v);
        }
        int[] none = {-1, 2, 3, 7, 8, LOW, HIGH};
        for (int number : none) {
            mendBad(x, number, 0, 3);
        }
        due("7: most", x.mend(1, 0, 9), 5);
        due("7: least", x.mend(1, 0, 0), 9);
        due("7: of it", x.of(1, 0), 0);
        due("7: of the other", x.of(0, 0), 5);
    }

    /** "FLOW (1) .. of a ROAD becomes v: what it was. BAD." */
    private static void mendFlow() {
        ThumbOut x = mended();
        int[] bad = {0, -1, 61, 62, LOW, HIGH};
        for (int v : bad) {
            mendBad(x, 0, 1, v);
        }
        int[] none = {-1, 2, 3, 15, 16, LOW, HIGH};
        for (int number : none) {
            mendBad(x, number, 1, 3);
        }
        due("7: most", x.mend(1, 1, 60), 20);
        due("7: least", x.mend(1, 1, 1), 60);
        due("7: of it", x.of(1, 11), 1);
        due("7: of the other", x.of(0, 11), 30);
    }

    /** "DANGER (2) of a ROAD becomes v: what it was. BAD." */
    private static void mendDanger() {
        ThumbOut x = mended();
        int[] bad = {-1, 100, 101, LOW, HIGH};
        for (int v : bad) {
            mendBad(x, 0, 2, v);
        }
        int[] none = {-1, 2, 3, 15, 16, LOW, HIGH};
        for (int number : none) {
            mendBad(x, number, 2, 3);
        }
        due("7: most", x.mend(1, 2, 99), 0);
        due("7: least", x.mend(1, 2, 0), 99);
        due("7: of it", x.of(1, 13), 0);
        due("7: of the other", x.of(0, 13), 10);
    }

    /** "BAD": no such what. */
    private static void mendNothingElse() {
        ThumbOut x = mended();
        int[] none = {-1, 3, 4, 10, 11, LOW, HIGH};
        for (int what : none) {
            mendBad(x, 0, what, 1);
        }
    }

    /** "Of a PLACE: 0 ROOM, 1 PUMPS"; "BAD." */
    private static void ofPlaces() {
        ThumbOut x = new ThumbOut();
        x.place(91);
        x.place(0);
        due("8: room", x.of(0, 0), 9);
        due("8: pumps", x.of(0, 1), 1);
        due("8: room of the last", x.of(1, 0), 0);
        due("8: pumps of the last", x.of(1, 1), 0);
        int[] none = {-1, 2, 3, 7, 8, LOW, HIGH};
        for (int number : none) {
            due("8: of(" + number + ", 0)", x.of(number, 0), BAD);
            due("8: of(" + number + ", 1)", x.of(number, 1), BAD);
        }
    }

    /** "of a ROAD: 10 ab, 11 FLOW, 12 LONG, 13 DANGER, 14 how many CARS it has. BAD." */
    private static void ofRoads() {
        ThumbOut x = Check.places(8);
        x.road(67, 60, 30099);
        x.road(76, 1, 100);
        int[][] is = {{67, 60, 300, 99, 1440}, {76, 1, 1, 0, 24}};
        int[] none = {-1, 2, 3, 15, 16, LOW, HIGH};
        for (int what = 10; what <= 14; what++) {
            due("8: of(0, " + what + ")", x.of(0, what), is[0][what - 10]);
            due("8: of(1, " + what + ")", x.of(1, what), is[1][what - 10]);
            for (int number : none) {
                due("8: of(" + number + ", " + what + ")", x.of(number, what), BAD);
            }
        }
        int[] bad = {-1, 2, 3, 9, 15, 16, LOW, HIGH};
        for (int what : bad) {
            due("8: of(0, " + what + ")", x.of(0, what), BAD);
        }
    }

    /** "car j (0, 1, ..) passes at MINUTE 60 j by FLOW (cut), up to MINUTE 1439": how many there are, by each FLOW. */
    private static void carsOfRoads() {
        ThumbOut x = mended();
        for (int flow = 1; flow <= 60; flow++) {
            x.mend(0, 1, flow);
            int cars = x.of(0, 14);
            due("8: cars of " + flow + " an hour", cars, 24 * flow);
            due("13: the last of " + flow, x.car(0, cars - 1, 0), 60 * (24 * flow - 1) / flow);
            due("13: none behind of " + flow, x.car(0, cars, 0), BAD);
        }
    }

    /** "alike: 0" */
    private static void farAlike() {
        ThumbOut x = Check.places(8);
        for (int place = 0; place < 8; place++) {
            due("14: far(" + 11 * place + ")", x.far(11 * place), 0);
        }
        x.road(1, 1, 500);
        x.road(10, 1, 500);
        due("14: alike and a way round", x.far(0), 0);
    }

    /** "none: 9999" */
    private static void farNone() {
        for (int a = 0; a < 8; a++) {
            ThumbOut x = Check.places(8);
            for (int b = 0; b < 8; b++) {
                due("14: no roads, far(" + (10 * a + b) + ")", x.far(10 * a + b), a == b ? 0 : 9999);
            }
        }
        ThumbOut x = Check.places(3);
        x.walk(1, 5);
        x.road(12, 1, 700);
        due("14: a walk is no road", x.far(2), 9999);
        due("14: of two roads one lacks", x.far(1), 9999);
        due("14: by the other", x.far(12), 7);
    }

    /** "the least sum of LONG by ROADS": of several ways, of up to seven roads, in any order that they came. */
    private static void farLeast() {
        ThumbOut x = Check.places(8);
        for (int a = 6; a >= 0; a--) {
            x.road(11 * a + 1, 1, 30000);
        }
        due("14: by seven roads", x.far(7), 2100);
        due("14: by six", x.far(17), 1800);
        x.road(7, 1, 30000);
        due("14: by one", x.far(7), 300);
        x.road(76, 1, 100);
        due("14: on from there", x.far(6), 301);
        x.road(6, 1, 100);
        due("14: shorter", x.far(6), 1);
        due("14: not by two of 1 and 300", x.far(7), 300);
        ThumbOut y = Check.places(8);
        for (int a = 0; a < 7; a++) {
            y.road(11 * a + 1, 1, 30000);
        }
        due("14: by seven roads that came from the start on", y.far(7), 2100);
        y.road(7, 1, 29900);
        due("14: like a shorter one", y.far(7), 299);
        y.mend(0, 1, 60);
        y.mend(7, 2, 99);
        due("14: whatever flow and danger are", y.far(7), 299);
    }

    /** "by ROADS from a PLACE to another one": a road leads one way. */
    private static void farOneWay() {
        ThumbOut x = Check.places(2);
        x.road(1, 1, 500);
        due("14: there", x.far(1), 5);
        due("14: not back", x.far(10), 9999);
        x.road(10, 1, 900);
        due("14: back", x.far(10), 9);
    }

    /** "BAD.": places that are not there. */
    private static void farBad() {
        ThumbOut x = Check.places(3);
        int[] bad = {3, 30, 33, 13, 31, 7, 70, 77, 8, 9, 90, 100, 101, 110, -1, -9, -10, -11, LOW, LOW + 1, HIGH, HIGH - 1};
        for (int ab : bad) {
            due("14: far(" + ab + ")", x.far(ab), BAD);
        }
        due("14: the last of them", x.far(22), 0);
    }

    /** "UNDONE: how many may still be. STATE: none." */
    private static void undoNone() {
        ThumbOut x = mended();
        due("28: nothing yet", x.undo(), STATE);
        x.mend(0, 0, 1);
        due("28: one", x.undo(), 0);
        due("28: none left", x.undo(), STATE);
        due("28: STATE changes nothing", x.of(0, 0), 5);
        due("28: it may be done again", x.redo(), 0);
        due("28: one again", x.undo(), 0);
    }

    /** "can be UNDONE, the latest first" */
    private static void undoLatestFirst() {
        ThumbOut x = mended();
        x.mend(0, 0, 1);
        x.mend(0, 1, 2);
        x.mend(0, 0, 3);
        x.mend(1, 2, 4);
        due("28: danger", x.undo(), 3);
        due("28: danger", x.of(1, 13), 0);
        due("28: room stays", x.of(0, 0), 3);
        due("28: room", x.undo(), 2);
        due("28: room as it was before", x.of(0, 0), 1);
        due("28: flow stays", x.of(0, 11), 2);
        due("28: flow", x.undo(), 1);
        due("28: flow", x.of(0, 11), 30);
        due("28: room", x.undo(), 0);
        due("28: room as it was first", x.of(0, 0), 5);
    }

    /** "DONE AGAIN: how many may still be. STATE: none." */
    private static void redoNone() {
        ThumbOut x = mended();
        due("29: nothing yet", x.redo(), STATE);
        x.mend(0, 0, 1);
        due("29: nothing undone", x.redo(), STATE);
        due("29: STATE changes nothing", x.count(4), 1);
        x.mend(0, 0, 2);
        x.undo();
        x.undo();
        due("29: the first one first", x.redo(), 1);
        due("29: its room", x.of(0, 0), 1);
        due("29: the second one", x.redo(), 0);
        due("29: its room", x.of(0, 0), 2);
        due("29: none left", x.redo(), STATE);
        due("28: both may be undone", x.count(4), 2);
    }

    /** "DONE AGAIN (as long as no other came behind)" */
    private static void redoUnlessAnotherCame() {
        ThumbOut x = mended();
        x.mend(0, 0, 1);
        x.mend(0, 0, 2);
        x.undo();
        due("7: BAD is no change", x.mend(0, 0, 10), BAD);
        due("7: as it is", x.mend(0, 0, 1), 1);
        due("29: none came behind", x.redo(), 0);
        x.undo();
        x.mend(1, 1, 7);
        due("29: another came behind", x.redo(), STATE);
        due("28: it and the one before", x.count(4), 2);
        x.undo();
        due("29: that one may be", x.redo(), 0);
        due("29: its flow", x.of(1, 11), 7);
        due("29: what was lost stays lost", x.of(0, 0), 1);
        ThumbOut y = mended();
        for (int i = 1; i <= 5; i++) {
            y.mend(0, 2, 50 + i);
        }
        for (int i = 1; i <= 4; i++) {
            y.undo();
        }
        y.mend(1, 2, 7);
        due("29: another came behind four that were undone", y.redo(), STATE);
        due("28: it and the first one", y.count(4), 2);
        due("28: it", y.undo(), 1);
        due("29: it again, and no more", y.redo(), 0);
        due("29: none of the four", y.redo(), STATE);
        due("29: danger of the first one", y.of(0, 13), 51);
    }

    /** "can be UNDONE .. and DONE AGAIN": what stops, passes and is got into is as it was, and as it became. */
    private static void undoneAsItWas() {
        ThumbOut x = mended();
        x.set(0, 1);
        Check.draw(x, 0, 0, 75);
        due("7: a draw not below", x.car(0, 0, 2), 0);
        x.mend(0, 0, 7);
        due("7: more room", x.car(0, 0, 2), 1);
        x.undo();
        due("28: the room that was", x.car(0, 0, 2), 0);
        x.redo();
        due("29: more room again", x.car(0, 0, 2), 1);
        Check.force(x, "1000");
        x.mend(0, 1, 1);
        due("7: one car an hour", x.waits(0, 1), 59);
        x.undo();
        due("28: 30 cars an hour", x.waits(0, 1), 1);
        x.redo();
        due("29: one car an hour", x.waits(0, 1), 59);
        due("26: by danger 10", x.safe(0, 1), 10);
        x.mend(0, 2, 60);
        due("26: by danger 60", x.safe(0, 1), 60);
        x.undo();
        due("26: by danger 10 again", x.safe(0, 1), 10);
        x.redo();
        due("26: by danger 60 again", x.safe(0, 1), 60);
    }

    /** "40 at most are kept." */
    private static void fortyChanges() {
        for (int many = 39; many <= 42; many++) {
            ThumbOut x = mended();
            for (int i = 1; i <= many; i++) {
                x.mend(0, 2, 10 + i);
            }
            int kept = Math.min(many, 40);
            due("28: kept of " + many, x.count(4), kept);
            for (int i = kept - 1; i >= 0; i--) {
                due("28: undo of " + many, x.undo(), i);
            }
            due("28: no further", x.undo(), STATE);
            due("28: where it stays", x.of(0, 13), 10 + many - kept);
            for (int i = kept - 1; i >= 0; i--) {
                due("29: redo of " + many, x.redo(), i);
            }
            due("29: no further", x.redo(), STATE);
            due("29: the last", x.of(0, 13), 10 + many);
            x.undo();
            x.mend(0, 2, 99);
            due("28: full again", x.count(4), kept);
        }
    }

    /** "CHANGES (ROOM of PLACES; FLOW, DANGER of ROADS)": nothing else is one. */
    private static void onlyMendsAreChanges() {
        ThumbOut x = mended();
        x.place(50);
        x.road(2, 1, 100);
        x.walk(1, 5);
        x.set(3, 1);
        Check.force(x, "r");
        Check.rule(x, "1");
        x.body(0);
        x.keep(0, 0);
        Check.row(x, 1, 1, 1, 1, 1, 1);
        x.roads(1, 0, 1);
        due("28: none", x.count(4), 0);
        due("28: none", x.undo(), STATE);
        x.mend(0, 0, 1);
        x.undo();
        x.place(50);
        x.road(2, 1, 100);
        x.walk(1, 6);
        x.set(3, 0);
        due("29: none of them came behind", x.redo(), 0);
    }
}
