import java.util.Arrays;

/** A thumb by the road: places, roads, cars that stop by draws, and how one goes from ride to ride. */
public final class ThumbOut {
    public static final int BAD = -1, NOT = -2, FULL = -3, STATE = -5, VOID = -2000000000;

    private static final int NOTHING_THERE = -11, OTHER_KIND = -12, NO_SUCH_PLACE = -13, SIZE_BELOW_0 = -14;

    private static final int PLACES = 8, ROADS = 16, LAWS = 4, BODIES = 50, SHELVES = 6;
    private static final int MOST_FLOW = 60, MOST_LONG = 300, MOST_DANGER = 99, MOST_SEEDS = 40;
    private static final int HOURS = 24, DAY = 1440, PM = 10000;
    private static final int TAPE = 120, NO_FAULT = -1, FAULT_BASE = -100;
    private static final int UNREACHED = 9999;
    private static final int MOST_RIDES = 20, MOST_QUEUE = 9;

    /** Later than every minute, so that what never comes is the latest of all. */
    private static final int NEVER = 0x7fffffff;

    /** The least long, answered where an element can't be. */
    private static final long NO_ELEMENT = 0x8000000000000000L;

    private static final int GOAL = 0, DARK = 1, PERSONS = 2, WET = 3, SIGN = 4, SEED = 5, SETTINGS = 6;

    private final Trip trip = new Trip();
    private final Land land = trip.land;
    private final Changes changes = new Changes();
    private final int[] settings = {0, 1200, 1, 0, -1, 0};
    private final int[] distances = new int[PLACES];
    private final int[] tape = new int[TAPE];
    private int tapeLength;
    private final Reader reader = new Reader();
    private final Text[] laws = new Text[LAWS];
    private int lawCount;
    private int inForce = -1;
    private Text rule = new Text();
    private boolean hasRule;
    private Text spare = new Text();
    private final Bodies bodies = new Bodies();
    private final Shelf[] shelves = new Shelf[SHELVES];

    public ThumbOut() {
        for (int i = 0; i < LAWS; i++) {
            laws[i] = new Text();
        }
        for (int i = 0; i < SHELVES; i++) {
            shelves[i] = new Shelf();
        }
    }

    // ---- places, roads, laws

    public int place(int rp) {
        if (rp < 0 || rp / 10 > 9 || rp % 10 > 1) {
            return BAD;
        }
        return land.addPlace(rp / 10, rp % 10);
    }

    public int road(int ab, int flow, int ld) {
        if (ld < 0) {
            return BAD;
        }
        return land.addRoad(ab, flow, ld / 100, ld % 100);
    }

    public int roads(int shelf, int i, int n) {
        Shelf source = shelfAt(shelf);
        if (source == null || n < 1 || n > 15) {
            return BAD;
        }
        if (source.holdsNothing()) {
            return 0;
        }
        if (!source.holdsRowOf(Shelf.SHORTS)) {
            return OTHER_KIND;
        }
        int came = 0;
        for (int at = i; came < n && source.holdsCells(at, 4); at += 4) {
            int made = land.addRoad((int) source.cell(at), (int) source.cell(at + 1),
                    (int) source.cell(at + 2), (int) source.cell(at + 3));
            if (made < 0) {
                break;
            }
            came++;
        }
        return came;
    }

    public int walk(int ab, int v) {
        if (!land.hasPair(ab) || ab / 10 == ab % 10 || v < 0 || v > MOST_LONG) {
            return BAD;
        }
        int was = land.onFoot(ab / 10, ab % 10);
        land.setOnFoot(ab / 10, ab % 10, v);
        land.setOnFoot(ab % 10, ab / 10, v);
        return was;
    }

    public int set(int what, int v) {
        if (!maySet(what, v)) {
            return VOID;
        }
        int was = settings[what];
        settings[what] = v;
        return was;
    }

    public int mend(int number, int what, int v) {
        if (!land.mayBecome(number, what, v)) {
            return BAD;
        }
        int was = land.valueOf(number, what);
        // A value that stays as it was is no change: none to undo, and none that came behind those undone.
        if (v != was) {
            land.change(number, what, v);
            changes.note(number, what, was, v);
        }
        return was;
    }

    public int of(int number, int what) {
        if (what >= 0 && what <= 1 && land.hasPlace(number)) {
            return what == 0 ? land.roomOf(number) : land.pumpsOf(number);
        }
        if (!land.hasRoad(number)) {
            return BAD;
        }
        switch (what) {
            case 10:
                return 10 * land.startOf(number) + land.endOf(number);
            case 11:
                return land.flowOf(number);
            case 12:
                return land.minutesOf(number);
            case 13:
                return land.dangerOf(number);
            case 14:
                return land.cars(number);
            default:
                return BAD;
        }
    }

    public int feed(int letter) {
        if (letter < 0 || letter > 255) {
            return BAD;
        }
        if (tapeLength < 0 || tapeLength >= TAPE) {
            return FULL;
        }
        tape[tapeLength] = letter;
        tapeLength++;
        return tapeLength;
    }

    public int law() {
        if (lawCount < 0 || lawCount >= LAWS) {
            return FULL;
        }
        int fault = readTape();
        if (fault != NO_FAULT) {
            return FAULT_BASE - fault;
        }
        Text made = spare;
        spare = laws[lawCount];
        laws[lawCount] = made;
        lawCount++;
        return lawCount - 1;
    }

    public int rule() {
        int fault = readTape();
        if (fault != NO_FAULT) {
            return FAULT_BASE - fault;
        }
        Text made = spare;
        spare = rule;
        rule = made;
        hasRule = true;
        return 1;
    }

    public int force(int law) {
        if (law < -1 || law >= lawCount) {
            return VOID;
        }
        int was = inForce;
        inForce = law;
        return was;
    }

    // ---- cars

    public int car(int road, int j, int what) {
        if (!land.hasCar(road, j) || what < 0 || what > 2) {
            return BAD;
        }
        if (what == 0) {
            return land.passes(road, j);
        }
        prepareTrip();
        if (what == 1) {
            return trip.draw(road, j);
        }
        return trip.isStopping(road, j) ? 1 : 0;
    }

    public int far(int ab) {
        if (!land.hasPair(ab)) {
            return BAD;
        }
        land.measureTo(ab % 10, distances);
        return distances[ab / 10];
    }

    public int waits(int place, int minute) {
        if (!land.hasPlace(place) || !isMinute(minute)) {
            return BAD;
        }
        prepareTrip();
        int stop = trip.stopAfter(place, minute, 1);
        return stop == NEVER ? NOT : stop - minute;
    }

    public int queue(int place, int minute, int k) {
        if (!land.hasPlace(place) || !isMinute(minute) || k < 1 || k > MOST_QUEUE) {
            return BAD;
        }
        prepareTrip();
        return orNot(trip.stopAfter(place, minute, k));
    }

    public int here(int pm, int nm, int part) {
        int n = nm / PM;
        if (!isMoment(pm) || nm < 0 || !isSeeds(n) || !isMinute(nm % PM) || part < 0 || part > 1) {
            return BAD;
        }
        int last = pm % PM + nm % PM;
        prepareTrip();
        int within = 0;
        for (int i = 0; i < n; i++) {
            trip.seed = settings[SEED] + i;
            if (trip.stopAfter(pm / PM, pm % PM, 1) <= last) {
                within++;
            }
        }
        return lowestTerms(within, n, part);
    }

    // ---- going

    public int goes(int pm, int i) {
        if (!isMoment(pm) || i < -1) {
            return BAD;
        }
        prepareTrip();
        int when = trip.arrival(pm / PM, pm % PM);
        if (i == -1) {
            return orNot(when);
        }
        return i < trip.rides && i < MOST_RIDES ? trip.ridden[i] : BAD;
    }

    public int dark(int pm, int n, int part) {
        if (!isMoment(pm) || !isSeeds(n) || part < 0 || part > 1) {
            return BAD;
        }
        prepareTrip();
        int inTime = 0;
        for (int i = 0; i < n; i++) {
            trip.seed = settings[SEED] + i;
            if (trip.arrival(pm / PM, pm % PM) <= settings[DARK]) {
                inTime++;
            }
        }
        return lowestTerms(inTime, n, part);
    }

    public int sign(int pm, int what) {
        if (!isMoment(pm) || what < 0 || what > 1) {
            return VOID;
        }
        prepareTrip();
        int best = -1;
        int earliest = NEVER;
        for (int sign = -1; sign < land.places; sign++) {
            trip.holdSign(sign);
            int when = trip.arrival(pm / PM, pm % PM);
            if (when < earliest) {
                earliest = when;
                best = sign;
            }
        }
        return what == 0 ? best : orNot(earliest);
    }

    public int in(int road, int j) {
        if (!land.hasCar(road, j)) {
            return BAD;
        }
        prepareTrip();
        if (!trip.isStopping(road, j)) {
            return STATE;
        }
        int minute = land.passes(road, j);
        int byRiding = trip.arrival(land.endOf(road), minute + land.minutesOf(road));
        int byWaiting = trip.arrival(land.startOf(road), minute + 1);
        return byRiding != NEVER && byRiding <= byWaiting ? 1 : 0;
    }

    public int walks(int pm, int what) {
        if (!isMoment(pm) || what < 0 || what > 1) {
            return BAD;
        }
        prepareTrip();
        int best = NOT;
        int earliest = NEVER;
        for (int start = 0; start < land.places; start++) {
            int minutes = land.onFoot(pm / PM, start);
            if (minutes == 0 && start != pm / PM) {
                continue;
            }
            int when = trip.arrival(start, pm % PM + minutes);
            if (when < earliest) {
                earliest = when;
                best = start;
            }
        }
        return what == 0 ? best : orNot(earliest);
    }

    public int begin(int place, int what) {
        if (!land.hasPlace(place) || what < 0 || what > 1) {
            return BAD;
        }
        prepareTrip();
        int best = NOT;
        int shortest = NEVER;
        for (int hour = 0; hour < HOURS; hour++) {
            int when = trip.arrival(place, 60 * hour);
            if (when != NEVER && when - 60 * hour < shortest) {
                shortest = when - 60 * hour;
                best = hour;
            }
        }
        return what == 0 ? best : orNot(shortest);
    }

    public int two(int pm, int what) {
        if (!isMoment(pm) || what < 0 || what > 1) {
            return BAD;
        }
        prepareTrip();
        trip.goAs(what == 0 ? 1 : 2);
        int when = trip.arrival(pm / PM, pm % PM);
        if (what == 0) {
            trip.seed = settings[SEED] + 1;
            when = Math.max(when, trip.arrival(pm / PM, pm % PM));
        }
        return orNot(when);
    }

    public int book(int shelf, int minute, int what) {
        Shelf told = shelfAt(shelf);
        if (told == null || !isMinute(minute) || what < 0 || what > 1) {
            return VOID;
        }
        if (told.holdsNothing()) {
            return NOTHING_THERE;
        }
        if (!told.holdsRowOf(Shelf.INTS)) {
            return OTHER_KIND;
        }
        if (!told.holdsCells(0, land.places)) {
            return NO_SUCH_PLACE;
        }
        prepareTrip();
        int best = -1;
        int least = NEVER;
        for (int law = -1; law < lawCount; law++) {
            trip.judgeBy(lawText(law));
            int off = trip.offFrom(told, minute);
            if (off < least) {
                least = off;
                best = law;
            }
        }
        return what == 0 ? best : least;
    }

    public int safe(int pm, int n) {
        if (!isMoment(pm) || !isSeeds(n)) {
            return BAD;
        }
        prepareTrip();
        for (int most = 0; most <= MOST_DANGER; most++) {
            // Between the dangers that roads have, another limit keeps out the same roads.
            if (most > 0 && !land.hasDanger(most)) {
                continue;
            }
            trip.mostDanger = most;
            boolean inTime = true;
            for (int i = 0; i < n && inTime; i++) {
                trip.seed = settings[SEED] + i;
                inTime = trip.arrival(pm / PM, pm % PM) <= settings[DARK];
            }
            if (inTime) {
                return most;
            }
        }
        return NOT;
    }

    public int never() {
        land.measureTo(settings[GOAL], distances);
        int bits = 0;
        for (int place = 0; place < PLACES && land.hasPlace(place); place++) {
            if (distances[place] == UNREACHED) {
                bits |= 1 << place;
            }
        }
        return bits;
    }

    public int undo() {
        return changes.stepBack(land);
    }

    public int redo() {
        return changes.stepOn(land);
    }

    // ---- acts, shelves

    public int body(int kind) {
        return bodies.add(kind);
    }

    public int act(int body, int act, int x) {
        return bodies.perform(body, act, x);
    }

    public int trace(int i) {
        return bodies.traced(i);
    }

    public int keep(int shelf, int body) {
        Shelf target = shelfAt(shelf);
        if (target == null || body != -1 && !bodies.has(body)) {
            return BAD;
        }
        target.takeBody(body);
        return 1;
    }

    public int row(int shelf, int sort, int n) {
        Shelf target = shelfAt(shelf);
        if (target == null || sort < 0 || sort > Shelf.BOOLEANS || n > Shelf.CELLS) {
            return BAD;
        }
        if (n < 0) {
            return SIZE_BELOW_0;
        }
        target.takeRow(sort, n);
        return 1;
    }

    public int put(int shelf, int i, long v) {
        int refusal = refusalOf(shelf, i);
        Shelf target = shelfAt(shelf);
        if (refusal != 0 || target == null) {
            return refusal;
        }
        target.store(i, v);
        return 1;
    }

    public long element(int shelf, int i) {
        Shelf source = shelfAt(shelf);
        if (refusalOf(shelf, i) != 0 || source == null) {
            return NO_ELEMENT;
        }
        return source.cell(i);
    }

    public int shift(int shelf, int i, int other, int j, int n) {
        Shelf source = shelfAt(shelf);
        Shelf target = shelfAt(other);
        if (source == null || target == null) {
            return BAD;
        }
        if (source.holdsNothing() || target.holdsNothing()) {
            return NOTHING_THERE;
        }
        if (!source.holdsRow() || !target.holdsRowOf(source.sort)) {
            return OTHER_KIND;
        }
        if (!source.holdsCells(i, n) || !target.holdsCells(j, n)) {
            return NO_SUCH_PLACE;
        }
        System.arraycopy(source.cells, i, target.cells, j, n);
        return n;
    }

    public int taken(int shelf, int k) {
        Shelf source = shelfAt(shelf);
        if (source == null || k < 0 || k >= Bodies.KINDS) {
            return BAD;
        }
        if (source.holdsNothing()) {
            return NOTHING_THERE;
        }
        if (source.holdsRow() || !bodies.has(source.body)) {
            return OTHER_KIND;
        }
        int kind = bodies.kinds[source.body];
        return Bodies.isUnder(kind, k) ? kind : OTHER_KIND;
    }

    public int count(int what) {
        switch (what) {
            case 0:
                return land.places;
            case 1:
                return land.roads;
            case 2:
                return lawCount;
            case 3:
                return tapeLength;
            case 4:
                return changes.done;
            case 5:
                return bodies.number;
            case 6:
                return bodies.ran;
            default:
                return BAD;
        }
    }

    // ---- what the calls share

    private static boolean isMinute(int minute) {
        return minute >= 0 && minute < DAY;
    }

    private static boolean isSeeds(int n) {
        return n >= 1 && n <= MOST_SEEDS;
    }

    private boolean isMoment(int pm) {
        return pm >= 0 && land.hasPlace(pm / PM) && isMinute(pm % PM);
    }

    private static int orNot(int minute) {
        return minute == NEVER ? NOT : minute;
    }

    private static boolean maySet(int what, int v) {
        switch (what) {
            case GOAL:
                return v >= 0 && v < PLACES;
            case DARK:
                return isMinute(v);
            case PERSONS:
                return v == 1 || v == 2;
            case WET:
                return v == 0 || v == 1;
            case SIGN:
                return v >= -1 && v < PLACES;
            default:
                return what == SEED;
        }
    }

    /** Part 0 above, part 1 below the line. */
    private static int lowestTerms(int hits, int n, int part) {
        int common = n;
        int rest = hits;
        for (int i = 0; i < MOST_SEEDS && rest > 0; i++) {
            int next = common % rest;
            common = rest;
            rest = next;
        }
        if (common < 1) {
            return BAD;
        }
        return (part == 0 ? hits : n) / common;
    }

    private Shelf shelfAt(int shelf) {
        return shelf >= 0 && shelf < SHELVES ? shelves[shelf] : null;
    }

    /** Why element i of a shelf's row can't be used; 0 if it can. */
    private int refusalOf(int shelf, int i) {
        Shelf target = shelfAt(shelf);
        if (target == null) {
            return BAD;
        }
        if (target.holdsNothing()) {
            return NOTHING_THERE;
        }
        if (!target.holdsRow()) {
            return OTHER_KIND;
        }
        return target.holdsCells(i, 1) ? 0 : NO_SUCH_PLACE;
    }

    /** Reads the tape into the spare text and empties it: the fault, or NO_FAULT. */
    private int readTape() {
        int fault = reader.read(tape, tapeLength, spare);
        tapeLength = 0;
        return fault;
    }

    private Text lawText(int law) {
        return law >= 0 && law < lawCount && law < LAWS ? laws[law] : null;
    }

    private void prepareTrip() {
        land.measureTo(settings[GOAL], trip.toGoal);
        trip.begins(settings, lawText(inForce), hasRule ? rule : null);
    }

    // ---- classes inside

    /** Places, roads and walks, as rows of numbers. */
    private static final class Land {
        static final int ROOM = 0, FLOW = 1, DANGER = 2;

        int places;
        int roads;
        private final int[] room = new int[PLACES];
        private final int[] pumps = new int[PLACES];
        private final int[] from = new int[ROADS];
        private final int[] to = new int[ROADS];
        private final int[] flow = new int[ROADS];
        private final int[] minutes = new int[ROADS];
        private final int[] danger = new int[ROADS];
        private final int[] foot = new int[PLACES * PLACES];

        boolean hasPlace(int place) {
            return place >= 0 && place < places && place < PLACES;
        }

        boolean hasRoad(int road) {
            return road >= 0 && road < roads && road < ROADS;
        }

        boolean hasPair(int ab) {
            return ab >= 0 && hasPlace(ab / 10) && hasPlace(ab % 10);
        }

        boolean hasCar(int road, int j) {
            return hasRoad(road) && j >= 0 && j < cars(road);
        }

        // These look at the row's end alone: that a place or road is there is asked by those who call.

        int roomOf(int place) {
            return place >= 0 && place < room.length ? room[place] : 0;
        }

        int pumpsOf(int place) {
            return place >= 0 && place < pumps.length ? pumps[place] : 0;
        }

        int startOf(int road) {
            return road >= 0 && road < from.length ? from[road] : -1;
        }

        int endOf(int road) {
            return road >= 0 && road < to.length ? to[road] : -1;
        }

        int flowOf(int road) {
            return road >= 0 && road < flow.length ? flow[road] : 0;
        }

        int minutesOf(int road) {
            return road >= 0 && road < minutes.length ? minutes[road] : 0;
        }

        int dangerOf(int road) {
            return road >= 0 && road < danger.length ? danger[road] : 0;
        }

        boolean hasDanger(int value) {
            for (int road = 0; road < roads; road++) {
                if (dangerOf(road) == value) {
                    return true;
                }
            }
            return false;
        }

        int addPlace(int roomThere, int pumpsThere) {
            if (places < 0 || places >= PLACES) {
                return FULL;
            }
            room[places] = roomThere;
            pumps[places] = pumpsThere;
            places++;
            return places - 1;
        }

        int addRoad(int ab, int cars, int takes, int risk) {
            if (!hasPair(ab) || ab / 10 == ab % 10 || cars < 1 || cars > MOST_FLOW
                    || takes < 1 || takes > MOST_LONG || risk < 0 || risk > MOST_DANGER) {
                return BAD;
            }
            if (roads < 0 || roads >= ROADS) {
                return FULL;
            }
            from[roads] = ab / 10;
            to[roads] = ab % 10;
            flow[roads] = cars;
            minutes[roads] = takes;
            danger[roads] = risk;
            roads++;
            return roads - 1;
        }

        int onFoot(int a, int b) {
            return hasPlace(a) && hasPlace(b) ? foot[a * PLACES + b] : 0;
        }

        void setOnFoot(int a, int b, int takes) {
            if (hasPlace(a) && hasPlace(b)) {
                foot[a * PLACES + b] = takes;
            }
        }

        boolean mayBecome(int number, int what, int v) {
            switch (what) {
                case ROOM:
                    return hasPlace(number) && v >= 0 && v <= 9;
                case FLOW:
                    return hasRoad(number) && v >= 1 && v <= MOST_FLOW;
                case DANGER:
                    return hasRoad(number) && v >= 0 && v <= MOST_DANGER;
                default:
                    return false;
            }
        }

        int valueOf(int number, int what) {
            if (what == ROOM) {
                return roomOf(number);
            }
            return what == FLOW ? flowOf(number) : dangerOf(number);
        }

        void change(int number, int what, int v) {
            if (!mayBecome(number, what, v)) {
                return;
            }
            if (what == ROOM) {
                room[number] = v;
            } else if (what == FLOW) {
                flow[number] = v;
            } else {
                danger[number] = v;
            }
        }

        int cars(int road) {
            return HOURS * flowOf(road);
        }

        int passes(int road, int j) {
            int perHour = flowOf(road);
            return perHour < 1 ? DAY : 60 * j / perHour;
        }

        /** The first car that passes in a minute or later; there may be none of this number. */
        int firstCarSince(int road, int minute) {
            return (minute * flowOf(road) + 59) / 60;
        }

        /** How far it is to a place from each one. */
        void measureTo(int goal, int[] into) {
            Arrays.fill(into, UNREACHED);
            if (!hasPlace(goal) || into.length < PLACES) {
                return;
            }
            into[goal] = 0;
            boolean nearer = true;
            for (int round = 0; round < places && nearer; round++) {
                nearer = false;
                for (int road = 0; road < roads; road++) {
                    int start = startOf(road);
                    int end = endOf(road);
                    if (!hasPlace(start) || !hasPlace(end)) {
                        continue;
                    }
                    int by = into[end] + minutesOf(road);
                    if (by < into[start]) {
                        into[start] = by;
                        nearer = true;
                    }
                }
            }
        }
    }

    /** The changes that may be undone, and behind them those that may be done again. */
    private static final class Changes {
        static final int KEPT = 40;

        final int[] numbers = new int[KEPT];
        final int[] whats = new int[KEPT];
        final int[] olds = new int[KEPT];
        final int[] news = new int[KEPT];
        int done;
        int size;

        void note(int number, int what, int was, int is) {
            if (done >= KEPT) {
                dropOldest();
            }
            if (done < 0 || done >= KEPT) {
                return;
            }
            numbers[done] = number;
            whats[done] = what;
            olds[done] = was;
            news[done] = is;
            done++;
            size = done;
        }

        private void dropOldest() {
            System.arraycopy(numbers, 1, numbers, 0, KEPT - 1);
            System.arraycopy(whats, 1, whats, 0, KEPT - 1);
            System.arraycopy(olds, 1, olds, 0, KEPT - 1);
            System.arraycopy(news, 1, news, 0, KEPT - 1);
            done = KEPT - 1;
        }

        int stepBack(Land land) {
            if (done < 1 || done > KEPT) {
                return STATE;
            }
            done--;
            land.change(numbers[done], whats[done], olds[done]);
            return done;
        }

        int stepOn(Land land) {
            if (done < 0 || done >= size || done >= KEPT) {
                return STATE;
            }
            land.change(numbers[done], whats[done], news[done]);
            done++;
            return size - done;
        }
    }

    /** A text that was read, as a row of steps over a stack. */
    private static final class Text {
        // A step is a name's place in NAMES, the sign of an operation, NEGATE, END,
        // NUMBER and a value more, or, below 0, less the place where the next line begins.
        static final String NAMES = "ruhtwsdabm";
        static final int FACTS = 10, WAITED = 9;
        static final int NEGATE = '~', END = ';', NUMBER = 1000;

        final int[] steps = new int[TAPE + 4];
        final int[] stack = new int[64];
        int size;
        boolean usesWaited;

        void clear() {
            size = 0;
            usesWaited = false;
        }

        void add(int step) {
            if (size < 0 || size >= steps.length) {
                return;
            }
            steps[size] = step;
            size++;
            usesWaited = usesWaited || step == WAITED;
        }

        /** Makes the step at a place lead to where the next line begins. */
        void leadOn(int place) {
            if (place >= 0 && place < size) {
                steps[place] = -size;
            }
        }

        int worth(int[] facts) {
            int top = 0;
            for (int at = 0; at < size && at < steps.length; at++) {
                int step = steps[at];
                if (step >= NUMBER || step >= 0 && step < FACTS) {
                    if (top >= stack.length || step < NUMBER && step >= facts.length) {
                        return 0;
                    }
                    stack[top] = step >= NUMBER ? step - NUMBER : facts[step];
                    top++;
                } else if (top < 1 || top > stack.length) {
                    return 0;
                } else if (step == END) {
                    return stack[top - 1];
                } else if (step < 0) {
                    // Only forward, so that the loop ends.
                    top--;
                    if (stack[top] == 0) {
                        at = Math.max(at, -step - 1);
                    }
                } else if (step == NEGATE) {
                    stack[top - 1] = -stack[top - 1];
                } else if (step == '!') {
                    stack[top - 1] = stack[top - 1] == 0 ? 1 : 0;
                } else if (top < 2) {
                    return 0;
                } else {
                    top--;
                    stack[top - 1] = joined(step, stack[top - 1], stack[top]);
                }
            }
            return 0;
        }

        private static int joined(int sign, int a, int b) {
            switch (sign) {
                case '|':
                    return a != 0 || b != 0 ? 1 : 0;
                case '&':
                    return a != 0 && b != 0 ? 1 : 0;
                case '<':
                    return a < b ? 1 : 0;
                case '=':
                    return a == b ? 1 : 0;
                case '>':
                    return a > b ? 1 : 0;
                case '+':
                    return a + b;
                case '-':
                    return a - b;
                case '*':
                    return a * b;
                case '/':
                    return b == 0 ? 0 : a / b;
                case '%':
                    return b == 0 ? 0 : a % b;
                default:
                    return 0;
            }
        }
    }

    /** Reads the tape's bytes into a text. */
    private static final class Reader {
        static final int COMPARING = 2, LEVELS = 5, MOST_OPEN = 6, MOST_DIGITS = 4;

        private int[] bytes;
        private int length;
        private int at;
        private int fault;
        private Text text;

        /** The place of the first byte with which no text goes on, or NO_FAULT. */
        int read(int[] tapeBytes, int tapeLength, Text into) {
            bytes = tapeBytes;
            length = Math.min(tapeLength, tapeBytes.length);
            at = 0;
            fault = NO_FAULT;
            text = into;
            text.clear();
            readLine();
            for (int i = 0; i < TAPE && next() == ';'; i++) {
                at++;
                readLine();
            }
            if (at < length) {
                fail();
            }
            return fault;
        }

        private void readLine() {
            readJoined(0, 0);
            int lead = text.size;
            boolean hasFirst = next() == '?';
            if (hasFirst) {
                at++;
                text.add(-1);
                readJoined(0, 0);
            }
            text.add(Text.END);
            if (hasFirst) {
                text.leadOn(lead);
            }
        }

        /** Reads parts of the next tighter level, joined by this level's signs. */
        private void readJoined(int level, int open) {
            if (level >= LEVELS) {
                readOperand(open);
                return;
            }
            readJoined(level + 1, open);
            int most = level == COMPARING ? 1 : TAPE;
            for (int i = 0; i < most && levelOf(next()) == level; i++) {
                int sign = next();
                at++;
                readJoined(level + 1, open);
                text.add(sign);
            }
        }

        private void readOperand(int open) {
            int sign = next();
            int name = sign < 0 ? -1 : Text.NAMES.indexOf((char) sign);
            if (isDigit(sign)) {
                readNumber();
            } else if (name >= 0) {
                at++;
                text.add(name);
            } else if (open >= MOST_OPEN) {
                fail();
            } else if (sign == '(') {
                at++;
                readJoined(0, open + 1);
                if (next() == ')') {
                    at++;
                } else {
                    fail();
                }
            } else if (sign == '!' || sign == '-') {
                at++;
                readOperand(open + 1);
                text.add(sign == '-' ? Text.NEGATE : sign);
            } else {
                fail();
            }
        }

        private void readNumber() {
            int value = 0;
            for (int i = 0; i < MOST_DIGITS && isDigit(next()); i++) {
                value = 10 * value + next() - '0';
                at++;
            }
            text.add(Text.NUMBER + value);
        }

        private static boolean isDigit(int sign) {
            return sign >= '0' && sign <= '9';
        }

        private static int levelOf(int sign) {
            switch (sign) {
                case '|':
                    return 0;
                case '&':
                    return 1;
                case '<':
                case '=':
                case '>':
                    return COMPARING;
                case '+':
                case '-':
                    return 3;
                case '*':
                case '/':
                case '%':
                    return 4;
                default:
                    return -1;
            }
        }

        /** The byte to come, or -1 at the end and behind a fault, so that nothing is read on. */
        private int next() {
            return fault == NO_FAULT && at >= 0 && at < length ? bytes[at] : -1;
        }

        private void fail() {
            if (fault == NO_FAULT) {
                fault = at;
            }
        }
    }

    /** What a text gives for a road in an hour, worked out once as long as the rest stays as it is. */
    private static final class Hourly {
        final int[] values = new int[ROADS * HOURS];
        final int[] rounds = new int[ROADS * HOURS];
        int round = 1;

        void forget() {
            round++;
        }

        boolean knows(int road, int hour) {
            return hasCell(road, hour) && rounds[road * HOURS + hour] == round;
        }

        int valueAt(int road, int hour) {
            return hasCell(road, hour) ? values[road * HOURS + hour] : 0;
        }

        void learn(int road, int hour, int value) {
            if (hasCell(road, hour)) {
                values[road * HOURS + hour] = value;
                rounds[road * HOURS + hour] = round;
            }
        }

        private static boolean hasCell(int road, int hour) {
            return road >= 0 && road < ROADS && hour >= 0 && hour < HOURS;
        }
    }

    /** One who stands, waits and rides, under circumstances that a call may vary. */
    private static final class Trip {
        final Land land = new Land();
        private Text law;
        private Text rule;
        private int persons;
        private int wet;
        private int sign;
        private int goal;
        int seed;
        int mostDanger;
        final int[] toGoal = new int[PLACES];
        private final int[] facts = new int[Text.FACTS];
        private final Hourly bars = new Hourly();
        private final Hourly gates = new Hourly();
        private final int[] stops = new int[MOST_QUEUE];
        final int[] ridden = new int[MOST_RIDES];
        int rides;
        private int boarded;

        void begins(int[] settings, Text lawInForce, Text ruleThere) {
            if (settings.length < SETTINGS) {
                return;
            }
            law = lawInForce;
            rule = ruleThere;
            goal = settings[GOAL];
            persons = settings[PERSONS];
            wet = settings[WET];
            sign = settings[SIGN];
            seed = settings[SEED];
            mostDanger = MOST_DANGER;
            forget();
        }

        void holdSign(int where) {
            sign = where;
            forget();
        }

        void goAs(int many) {
            persons = many;
            forget();
        }

        void judgeBy(Text other) {
            law = other;
            forget();
        }

        private void forget() {
            bars.forget();
            gates.forget();
        }

        int draw(int road, int j) {
            return ((j + 1) * 1103515245 + (road + 1) * 12345 + seed >>> 8) % 1000;
        }

        boolean isStopping(int road, int j) {
            return draw(road, j) < bar(road, land.passes(road, j) / 60);
        }

        /** What a car's draw has to be below, for it to stop. */
        private int bar(int road, int hour) {
            if (!bars.knows(road, hour)) {
                int value;
                if (law == null) {
                    value = habit(road);
                } else {
                    noteFacts(road, hour);
                    value = law.worth(facts);
                }
                bars.learn(road, hour, value);
            }
            return bars.valueAt(road, hour);
        }

        private int habit(int road) {
            int shared = 10 * land.roomOf(land.startOf(road)) + 10;
            if (persons > 0) {
                shared /= persons;
            }
            return shared - 5 * wet + (land.endOf(road) == sign ? 20 : 0);
        }

        /** The facts that laws and the rule share; for laws the other ones are 0. */
        private void noteFacts(int road, int hour) {
            facts[0] = land.roomOf(land.startOf(road));
            facts[1] = land.pumpsOf(land.startOf(road));
            facts[2] = hour;
            facts[3] = persons;
            facts[4] = wet;
            facts[5] = land.endOf(road) == sign ? 1 : 0;
            facts[6] = land.dangerOf(road);
            facts[7] = 0;
            facts[8] = 0;
            facts[9] = 0;
        }

        private boolean getsIn(int road, int minute, int waited) {
            if (rule == null) {
                return leadsNearer(road);
            }
            int hour = minute / 60;
            if (!rule.usesWaited && gates.knows(road, hour)) {
                return gates.valueAt(road, hour) != 0;
            }
            noteFacts(road, hour);
            facts[7] = goalFrom(land.endOf(road));
            facts[8] = goalFrom(land.startOf(road));
            facts[Text.WAITED] = waited;
            int value = rule.worth(facts);
            gates.learn(road, hour, value);
            return value != 0;
        }

        private int goalFrom(int place) {
            return place >= 0 && place < PLACES ? toGoal[place] : UNREACHED;
        }

        private boolean leadsNearer(int road) {
            return goalFrom(land.endOf(road)) < goalFrom(land.startOf(road));
        }

        /** Whether any car of a road may take one along; those of the others need no look. */
        private boolean mayTake(int road, int place) {
            return land.startOf(road) == place && land.dangerOf(road) <= mostDanger
                    && (rule != null || leadsNearer(road));
        }

        /** The first car of a road, from j on, that stops and passes before a minute; -1: none. */
        private int nextStop(int road, int j, int before) {
            int cars = land.cars(road);
            int hour = -1;
            int bar = 0;
            for (int car = j; car < cars; car++) {
                int minute = land.passes(road, car);
                if (minute >= before) {
                    return -1;
                }
                if (minute / 60 != hour) {
                    hour = minute / 60;
                    bar = bar(road, hour);
                }
                if (draw(road, car) < bar) {
                    return car;
                }
            }
            return -1;
        }

        /** The minute of the k-th car that stops at a place from a minute on, or NEVER. */
        int stopAfter(int place, int since, int k) {
            if (k < 1 || k > MOST_QUEUE) {
                return NEVER;
            }
            int had = 0;
            int before = DAY;
            for (int road = 0; road < land.roads; road++) {
                if (land.startOf(road) != place) {
                    continue;
                }
                int j = nextStop(road, land.firstCarSince(road, since), before);
                for (int i = 0; i < DAY && j >= 0; i++) {
                    had = insertStop(land.passes(road, j), had, k);
                    before = had < k ? DAY : stops[k - 1];
                    j = nextStop(road, j + 1, before);
                }
            }
            return had < k ? NEVER : stops[k - 1];
        }

        /** Puts a minute among the least ones, of which there are at most k: how many there are. */
        private int insertStop(int minute, int had, int k) {
            int at = had < k ? had : k - 1;
            for (int i = at; i > 0 && i < MOST_QUEUE && stops[i - 1] > minute; i--) {
                stops[i] = stops[i - 1];
                at = i - 1;
            }
            if (at >= 0 && at < MOST_QUEUE) {
                stops[at] = minute;
            }
            return had < k ? had + 1 : k;
        }

        /** The road by which one leaves a place, the minute stands in boarded; -1: none. */
        private int board(int place, int since) {
            int best = DAY;
            int by = -1;
            for (int road = 0; road < land.roads; road++) {
                if (!mayTake(road, place)) {
                    continue;
                }
                int j = nextStop(road, land.firstCarSince(road, since), best);
                for (int i = 0; i < DAY && j >= 0; i++) {
                    int minute = land.passes(road, j);
                    if (getsIn(road, minute, minute - since)) {
                        best = minute;
                        by = road;
                        break;
                    }
                    j = nextStop(road, j + 1, best);
                }
            }
            boarded = best;
            return by;
        }

        /** The minute in which one arrives at the goal, or NEVER. */
        int arrival(int start, int since) {
            int place = start;
            int minute = since;
            rides = 0;
            for (int i = 0; i < MOST_RIDES && place != goal; i++) {
                int road = board(place, minute);
                if (road < 0) {
                    return NEVER;
                }
                ridden[i] = road;
                rides = i + 1;
                minute = boarded + land.minutesOf(road);
                place = land.endOf(road);
            }
            return place == goal ? minute : NEVER;
        }

        /** How far waits told for places are off those that the law gives. */
        int offFrom(Shelf told, int minute) {
            int off = 0;
            for (int place = 0; place < land.places; place++) {
                int stop = stopAfter(place, minute, 1);
                int wait = stop == NEVER ? DAY : stop - minute;
                long held = Math.max(0L, Math.min((long) DAY, told.cell(place)));
                off += Math.abs((int) held - wait);
            }
            return off;
        }
    }

    /** Bodies of kinds, whose acts come from the kind itself or from above. */
    private static final class Bodies {
        static final int KINDS = 8, ACTS = 4, TRACED = 24, DEEPEST = 40;
        static final int STANDS = 0, STOPS = 1, RIDES = 2, CHOOSES = 3;

        /** The kind above each one. */
        private static final int[] ABOVE = {-1, 0, 0, 1, 0, 2, 4, 3};

        /** By kinds: the numbers of its own bodies of stands, stops, rides, chooses; 0: none. */
        private static final int[] OWN = {
            1, 10, 11, 2,
            20, 0, 0, 0,
            0, 30, 0, 0,
            0, 41, 40, 0,
            0, 0, 0, 50,
            0, 0, 60, 61,
            70, 0, 0, 0,
            81, 80, 0, 0
        };

        final int[] kinds = new int[BODIES];
        int number;
        int ran;
        private final int[] trace = new int[TRACED];
        private int self;
        private int kind;

        boolean has(int body) {
            return body >= 0 && body < number && body < BODIES;
        }

        int add(int ofKind) {
            if (ofKind < 0 || ofKind >= KINDS) {
                return BAD;
            }
            if (number < 0 || number >= BODIES) {
                return FULL;
            }
            kinds[number] = ofKind;
            number++;
            return number - 1;
        }

        static boolean isUnder(int ofKind, int above) {
            int at = ofKind;
            for (int i = 0; i < KINDS && at >= 0 && at < KINDS; i++) {
                if (at == above) {
                    return true;
                }
                at = ABOVE[at];
            }
            return false;
        }

        int perform(int body, int act, int x) {
            ran = 0;
            if (!has(body) || act < 0 || act >= ACTS) {
                return 0;
            }
            self = body;
            kind = kinds[body];
            return run(act, kind, x, 0);
        }

        int traced(int i) {
            return i >= 0 && i < ran && i < TRACED ? trace[i] : BAD;
        }

        /** The kind, this one or the next above, that has a body of its own for an act; -1: none. */
        private static int ownerOf(int act, int from) {
            int at = from;
            for (int i = 0; i < KINDS && at >= 0 && at < KINDS; i++) {
                if (OWN[at * ACTS + act] != 0) {
                    return at;
                }
                at = ABOVE[at];
            }
            return -1;
        }

        /** Runs the body that an act has from a kind on upward. */
        private int run(int act, int from, int x, int depth) {
            int owner = ownerOf(act, from);
            if (owner < 0 || depth > DEEPEST) {
                return 0;
            }
            int up = ABOVE[owner];
            int deeper = depth + 1;
            int which = OWN[owner * ACTS + act];
            if (ran < TRACED) {
                trace[ran] = which;
            }
            ran++;
            switch (which) {
                case 1:
                    return x + self;
                case 2:
                    return run(STOPS, kind, x, deeper) - run(RIDES, kind, 1, deeper);
                case 10:
                    return run(STANDS, kind, x, deeper) * 2;
                case 11:
                    return x ^ self;
                case 20:
                    return run(STANDS, up, x, deeper) + 3;
                case 30:
                    return -run(STOPS, up, x, deeper);
                case 40:
                    return run(RIDES, up, x, deeper) * 3;
                case 41:
                    return run(STOPS, up, x + 1, deeper);
                case 50:
                    return run(CHOOSES, up, x, deeper) ^ 5;
                case 60:
                    return run(RIDES, up, x, deeper) - run(STANDS, kind, 2, deeper);
                case 61:
                    return run(CHOOSES, up, x, deeper) + 1;
                case 70:
                    return run(STANDS, up, x, deeper) * 2;
                case 80:
                    return run(STOPS, up, x, deeper) + run(RIDES, kind, 2, deeper);
                case 81:
                    return run(STANDS, up, x, deeper) - 1;
                default:
                    return 0;
            }
        }
    }

    /** A shelf: nothing, a body, or a row, whose elements are kept as longs of the row's sort. */
    private static final class Shelf {
        static final int BYTES = 0, SHORTS = 1, INTS = 2, LONGS = 3, BOOLEANS = 4;
        static final int NOTHING = -1, BODY = 5, CELLS = 60;

        int sort = NOTHING;
        int body = -1;
        private int size;
        final long[] cells = new long[CELLS];

        boolean holdsNothing() {
            return sort == NOTHING;
        }

        boolean holdsRow() {
            return sort >= BYTES && sort <= BOOLEANS;
        }

        boolean holdsRowOf(int wanted) {
            return holdsRow() && sort == wanted;
        }

        /** Whether n elements from i on are there. */
        boolean holdsCells(int i, int n) {
            return holdsRow() && i >= 0 && n >= 0 && n <= size && i <= size - n;
        }

        void takeBody(int number) {
            sort = number < 0 ? NOTHING : BODY;
            body = number;
        }

        void takeRow(int ofSort, int n) {
            sort = ofSort;
            body = -1;
            size = Math.max(0, Math.min(CELLS, n));
            Arrays.fill(cells, 0L);
        }

        long cell(int i) {
            return holdsCells(i, 1) ? cells[i] : 0L;
        }

        void store(int i, long v) {
            if (holdsCells(i, 1)) {
                cells[i] = lowestBits(v);
            }
        }

        private long lowestBits(long v) {
            switch (sort) {
                case BYTES:
                    return (byte) v;
                case SHORTS:
                    return (short) v;
                case INTS:
                    return (int) v;
                case BOOLEANS:
                    return v != 0 ? 1 : 0;
                default:
                    return v;
            }
        }
    }
}
