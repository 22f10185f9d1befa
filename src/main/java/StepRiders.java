/**
 * A moving stair with riders in two lanes, as ../shared/DOC.md tells it.
 *
 * All rows, stairs and kept acts are made once, in the constructor, and used again by every call:
 * no call makes an object.
 */
public final class StepRiders {
    public static final int NONE = -1000000, BAD = -1000001, STATE = -1000002, FULL = -1000003;

    private static final int FINDINGS = -1000010;
    private static final int NO_ROW = 1, NO_PLACE = 2, NO_SUCH_KIND = 3, NO_SIZE = 4, NO_STORE = 5;
    private static final int FAULTS = -1000100;

    private static final int ROWS = 8, ITEMS = 40, BYTES = 0, SHORTS = 1, INTS = 2;
    private static final int TAPE = 90;
    private static final int RIDERS = 7, LEAST_STEPS = 4, MOST_STEPS = 12, MOST_SPEED = 2;
    private static final int QUEUE = -1, OFF = 99;
    private static final int ACTS = 24, LAST_TICK = 9999;
    private static final int FORETOLD = 60, PACES = 6, SEEN = 12, IMAGES = 2;

    private static final int RIDER = 0, STANDER = 1, WALKER = 2, RUNNER = 3, TRUNK = 4, CHILD = 5;
    private static final int[] NEXT_KIND = {-1, RIDER, STANDER, STANDER, RIDER, TRUNK};

    private static final int SIZE = 0, MARK = 1;
    /* By kind: the body told for it, 0 where none is told. */
    private static final int[] SIZE_BODIES = {10, 11, 12, 0, 13, 14};
    private static final int[] MARK_BODIES = {20, 21, 24, 22, 23, 0};
    private static final int DEEPEST_BODY = 16;

    private final Row[] rows = new Row[ROWS];
    private final Tape tape = new Tape();
    private final Stair now = new Stair();
    private final Acts acts = new Acts();
    private final Stair[] images = new Stair[IMAGES];
    private final Trace traced = new Trace();
    /* Where what is foretold is tried: 'trial' for one run of ticks, 'levels' for rows of speeds. */
    private final Stair trial = new Stair();
    private final Stair[] levels = new Stair[PACES + 1];
    private final int[] paces = new int[PACES];
    private final int[] bestPaces = new int[PACES];
    private int finding = 0;

    public StepRiders() {
        for (int i = 0; i < ROWS; i++) {
            rows[i] = new Row();
        }
        for (int i = 0; i < IMAGES; i++) {
            images[i] = new Stair();
        }
        for (int i = 0; i <= PACES; i++) {
            levels[i] = new Stair();
        }
    }

    // ---- rows

    public int row(int row, int width, int n) {
        if (noRow(row) || outside(width, BYTES, INTS) || n > ITEMS) {
            return BAD;
        }
        if (n < 0) {
            return found(NO_SIZE);
        }
        rows[row].begin(width, n);
        return fine(n);
    }

    public int set(int row, int i, int v) {
        if (noRow(row)) {
            return BAD;
        }
        Row to = rows[row];
        if (to.missing) {
            return found(NO_ROW);
        }
        if (!to.holds(i, 1)) {
            return found(NO_PLACE);
        }
        to.items[i] = to.cut(v);
        return fine(to.items[i]);
    }

    public int copy(int a, int i, int b, int j, int n) {
        if (noRow(a) || noRow(b)) {
            return BAD;
        }
        Row from = rows[a];
        Row to = rows[b];
        if (from.missing || to.missing) {
            return found(NO_ROW);
        }
        if (from.width != to.width) {
            return found(NO_STORE);
        }
        if (!from.holds(i, n) || !to.holds(j, n)) {
            return found(NO_PLACE);
        }
        System.arraycopy(from.items, i, to.items, j, n);
        return fine(n);
    }

    public int drop(int row) {
        if (noRow(row)) {
            return BAD;
        }
        if (rows[row].missing) {
            return found(NO_ROW);
        }
        rows[row].missing = true;
        return fine(rows[row].length);
    }

    // ---- stairs, acts

    public int feed(int letter) {
        if (outside(letter, 0, 255)) {
            return BAD;
        }
        if (tape.length >= TAPE) {
            return FULL;
        }
        tape.append(letter);
        return tape.length;
    }

    public int stair() {
        int place = tape.readInto(trial);
        tape.length = 0;
        if (place != NONE) {
            return FAULTS - place;
        }
        now.become(trial);
        acts.forgetAll();
        return now.riders;
    }

    public int fault() {
        return tape.fault;
    }

    public int ticks(int n) {
        if (noStair()) {
            return STATE;
        }
        if (outside(n, 1, ACTS)) {
            return BAD;
        }
        if (now.tick + n > LAST_TICK) {
            return FULL;
        }
        for (int i = 0; i < n; i++) {
            acts.keep(now);
            now.pass();
        }
        return now.howManyAt(OFF);
    }

    public int speed(int v) {
        if (noStair()) {
            return STATE;
        }
        if (outside(v, 0, MOST_SPEED)) {
            return BAD;
        }
        int was = now.speed;
        acts.keep(now);
        now.speed = v;
        return was;
    }

    public int cross(int rider) {
        if (noRider(rider)) {
            return BAD;
        }
        if (now.at[rider] == OFF || !now.mayCross(rider)) {
            return STATE;
        }
        acts.keep(now);
        now.lane[rider] = 1 - now.lane[rider];
        return now.lane[rider];
    }

    public int take(int rider) {
        if (noRider(rider)) {
            return BAD;
        }
        int was = now.at[rider];
        if (was == OFF) {
            return STATE;
        }
        acts.keep(now);
        now.at[rider] = OFF;
        return was;
    }

    public int again(int rider, int lane) {
        if (noRider(rider) || outside(lane, 0, 1)) {
            return BAD;
        }
        if (now.at[rider] != OFF) {
            return STATE;
        }
        acts.keep(now);
        now.sendBack(rider, lane);
        return now.howManyAt(OFF);
    }

    public int undo() {
        if (acts.kept == 0) {
            return STATE;
        }
        acts.takeBack(now);
        return acts.kept;
    }

    public int rider(int rider, int what) {
        if (noRider(rider)) {
            return BAD;
        }
        switch (what) {
            case 0:
                return now.at[rider];
            case 1:
                return now.lane[rider];
            case 2:
                return oneIf(now.takesBoth(rider));
            case 3:
                return oneIf(now.isOn(rider) && now.mayGo(rider, now.at[rider] + 1));
            default:
                return BAD;
        }
    }

    public int step(int step, int lane) {
        if (outside(step, 0, now.steps - 1) || outside(lane, 0, 1)) {
            return BAD;
        }
        return now.whoTakes(step, lane);
    }

    // ---- foretold

    public int ahead(int rider, int d) {
        if (noRider(rider) || outside(d, 0, FORETOLD)) {
            return BAD;
        }
        tryTicks(d);
        return trial.at[rider];
    }

    public int later(int d, int what) {
        if (noStair()) {
            return STATE;
        }
        if (outside(d, 0, FORETOLD) || outside(what, 0, 1)) {
            return BAD;
        }
        tryTicks(d);
        return what == 0 ? trial.howManyAt(OFF) : trial.stepsTaken();
    }

    public int off(int rider) {
        if (noRider(rider)) {
            return BAD;
        }
        trial.become(now);
        return trial.passUntilOff(rider, FORETOLD);
    }

    public int clear() {
        if (noStair()) {
            return STATE;
        }
        trial.become(now);
        return trial.passUntilClear(FORETOLD);
    }

    public int sorting(int what) {
        if (noStair()) {
            return STATE;
        }
        if (outside(what, 0, 1)) {
            return BAD;
        }
        int queue = now.whoIsAt(QUEUE);
        int soonest = FORETOLD + 1;
        int which = NONE;
        int lanes = 0;
        for (int tries = 0; tries < 1 << RIDERS; tries++) {
            trial.become(now);
            trial.putInLanes(queue, lanes);
            int behind = trial.passUntilClear(soonest - 1);
            if (behind != NONE) {
                soonest = behind;
                which = lanes;
            }
            lanes = nextSubset(lanes, queue);
            if (lanes == 0) {
                break;
            }
        }
        if (which == NONE) {
            return NONE;
        }
        return what == 0 ? soonest : which;
    }

    public int taken(int what) {
        if (noStair()) {
            return STATE;
        }
        if (outside(what, 0, 1)) {
            return BAD;
        }
        trial.become(now);
        int asItIs = trial.passUntilClear(FORETOLD);
        int soonest = asItIs == NONE ? FORETOLD + 1 : asItIs;
        int who = NONE;
        for (int rider = 0; rider < now.riders; rider++) {
            trial.become(now);
            trial.at[rider] = OFF;
            int behind = trial.passUntilClear(soonest - 1);
            if (behind != NONE) {
                soonest = behind;
                who = rider;
            }
        }
        if (who == NONE) {
            return NONE;
        }
        return what == 0 ? who : soonest;
    }

    public int pace(int rider, int n, int k) {
        if (noRider(rider) || outside(n, 1, PACES) || k < -1) {
            return BAD;
        }
        int sum = findPaces(rider, n);
        if (sum == NONE || k == -1) {
            return sum;
        }
        return k < n ? bestPaces[k] : NONE;
    }

    public int fits(int rider, int row, int i, int n, int what) {
        if (noRider(rider) || noRow(row) || outside(n, 1, SEEN) || outside(what, 0, 3)) {
            return BAD;
        }
        Row seen = rows[row];
        if (seen.missing) {
            return found(NO_ROW);
        }
        if (!seen.holds(i, n)) {
            return found(NO_PLACE);
        }
        switch (what) {
            case 0:
                return fine(kindsThatFit(rider, seen, i, n));
            case 1:
                return fine(lanesThatFit(rider, seen, i, n));
            case 2:
                return fine(speedsThatFit(rider, seen, i, n));
            default:
                return fine(startsThatFit(rider, seen, i, n));
        }
    }

    public int absent(int rider, int n, int c, int what) {
        if (noRider(rider) || outside(n, 0, FORETOLD) || outside(c, 0, 10) || outside(what, 0, 1)) {
            return BAD;
        }
        int queue = now.whoIsAt(QUEUE);
        int queued = Integer.bitCount(queue);
        int above = 0;
        int gone = 0;
        for (int tries = 0; tries < 1 << RIDERS; tries++) {
            trial.become(now);
            trial.takeOff(gone);
            if (trial.passUntilOff(rider, n) != NONE) {
                int missing = Integer.bitCount(gone);
                above += power(c, missing) * power(10 - c, queued - missing);
            }
            gone = nextSubset(gone, queue);
            if (gone == 0) {
                break;
            }
        }
        int below = power(10, queued);
        int common = greatestDivisor(above, below);
        return what == 0 ? above / common : below / common;
    }

    public int drawn(int n, int seed, int what) {
        if (noStair()) {
            return STATE;
        }
        if (outside(n, 0, FORETOLD) || outside(seed, 1, 999999) || outside(what, 0, 1)) {
            return BAD;
        }
        trial.become(now);
        long x = seed;
        int gone = 0;
        for (int i = 0; i < n; i++) {
            x = x * 16807L % 2147483647L;
            trial.draw((int) x);
            gone += trial.pass();
        }
        return what == 0 ? gone : trial.howManyAt(OFF);
    }

    public int image(int k) {
        if (outside(k, 0, IMAGES - 1)) {
            return BAD;
        }
        if (noStair()) {
            return STATE;
        }
        images[k].become(now);
        return 1;
    }

    public int restore(int k) {
        if (outside(k, 0, IMAGES - 1)) {
            return BAD;
        }
        if (images[k].riders == 0) {
            return STATE;
        }
        now.become(images[k]);
        acts.forgetAll();
        return 1;
    }

    // ---- asked

    public int kind(int rider) {
        return noRider(rider) ? BAD : now.kind[rider];
    }

    public int as(int rider, int kind) {
        if (noRider(rider) || outside(kind, RIDER, CHILD)) {
            return BAD;
        }
        int own = now.kind[rider];
        for (int up = RIDER; up <= CHILD && own >= RIDER; up++) {
            if (own == kind) {
                return fine(rider);
            }
            own = NEXT_KIND[own];
        }
        return found(NO_SUCH_KIND);
    }

    public int ask(int rider, int what) {
        if (noRider(rider) || outside(what, SIZE, MARK)) {
            return BAD;
        }
        traced.length = 0;
        return answerOf(bodyFor(now.kind[rider], what), now, rider, traced, 0);
    }

    public int trace(int i) {
        return outside(i, 0, traced.length - 1) ? NONE : traced.bodies[i];
    }

    public int count(int what) {
        switch (what) {
            case 0:
                return howManyRows();
            case 1:
                return now.riders;
            case 2:
                return now.steps;
            case 3:
                return now.tick;
            case 4:
                return now.speed;
            case 5:
                return now.howManyAt(QUEUE);
            case 6:
                return now.riders - now.howManyAt(QUEUE) - now.howManyAt(OFF);
            case 7:
                return now.howManyAt(OFF);
            case 8:
                return acts.kept;
            case 9:
                return tape.length;
            default:
                return BAD;
        }
    }

    public int status() {
        return finding;
    }

    // ---- what the calls share

    private static boolean outside(int v, int least, int most) {
        return v < least || v > most;
    }

    private static int oneIf(boolean so) {
        return so ? 1 : 0;
    }

    private static boolean noRow(int row) {
        return outside(row, 0, ROWS - 1);
    }

    /* A stair that was read has a rider, so one without riders is none. */
    private boolean noStair() {
        return now.riders == 0;
    }

    private boolean noRider(int rider) {
        return outside(rider, 0, now.riders - 1);
    }

    private int found(int number) {
        finding = number;
        return FINDINGS - number;
    }

    private int fine(int answer) {
        finding = 0;
        return answer;
    }

    private int howManyRows() {
        int many = 0;
        for (int i = 0; i < ROWS; i++) {
            many += oneIf(!rows[i].missing);
        }
        return many;
    }

    private void tryTicks(int d) {
        trial.become(now);
        for (int i = 0; i < d; i++) {
            trial.pass();
        }
    }

    /* The next greater set within 'all'; 0 behind the last. */
    private static int nextSubset(int set, int all) {
        return (set - all) & all;
    }

    private static int power(int base, int times) {
        int product = 1;
        for (int i = 0; i < times; i++) {
            product *= base;
        }
        return product;
    }

    /* At least 1 for any two, so that it may divide. */
    private static int greatestDivisor(int a, int b) {
        int greater = a;
        int less = b;
        for (int i = 0; i < 100 && less != 0; i++) {
            int rest = greater % less;
            greater = less;
            less = rest;
        }
        return Math.max(greater, 1);
    }

    // ---- rows of speeds

    /* The least sum, with its first row left in bestPaces; NONE. */
    private int findPaces(int rider, int n) {
        int best = NONE;
        int all = power(MOST_SPEED + 1, n);
        levels[0].become(now);
        for (int code = 0; code < all; code++) {
            passLevels(writePaces(code, n), n);
            int sum = sumOfPaces(n);
            if (levels[n].at[rider] == OFF && (best == NONE || sum < best)) {
                best = sum;
                System.arraycopy(paces, 0, bestPaces, 0, n);
            }
        }
        return best;
    }

    /*
     * The row of speeds with a number: the first tick of which the speed is not as in the row before,
     * as what is ahead of it need not be tried anew.
     */
    private int writePaces(int code, int n) {
        int first = n;
        int rest = code;
        for (int tick = n - 1; tick >= 0; tick--) {
            int speed = rest % (MOST_SPEED + 1);
            rest /= MOST_SPEED + 1;
            if (speed != paces[tick]) {
                first = tick;
            }
            paces[tick] = speed;
        }
        return code == 0 ? 0 : first;
    }

    private void passLevels(int first, int n) {
        for (int tick = first; tick < n; tick++) {
            Stair next = levels[tick + 1];
            next.become(levels[tick]);
            next.speed = paces[tick];
            next.pass();
        }
    }

    private int sumOfPaces(int n) {
        int sum = 0;
        for (int tick = 0; tick < n; tick++) {
            sum += paces[tick];
        }
        return sum;
    }

    // ---- what fits where a rider was seen

    private int kindsThatFit(int rider, Row seen, int i, int n) {
        int bits = 0;
        for (int kind = STANDER; kind <= CHILD; kind++) {
            trial.become(now);
            trial.kind[rider] = kind;
            bits |= oneIf(trialFits(rider, seen, i, n)) << kind;
        }
        return bits;
    }

    private int lanesThatFit(int rider, Row seen, int i, int n) {
        int bits = 0;
        for (int lane = 0; lane <= 1; lane++) {
            trial.become(now);
            trial.lane[rider] = lane;
            bits |= oneIf(trialFits(rider, seen, i, n)) << lane;
        }
        return bits;
    }

    private int speedsThatFit(int rider, Row seen, int i, int n) {
        int bits = 0;
        for (int speed = 0; speed <= MOST_SPEED; speed++) {
            trial.become(now);
            trial.speed = speed;
            bits |= oneIf(trialFits(rider, seen, i, n)) << speed;
        }
        return bits;
    }

    private int startsThatFit(int rider, Row seen, int i, int n) {
        if (!now.isOn(rider)) {
            return 0;
        }
        int bits = 0;
        for (int step = 0; step < now.steps; step++) {
            if (now.isFree(rider, step)) {
                trial.become(now);
                trial.at[rider] = step;
                bits |= oneIf(trialFits(rider, seen, i, n)) << step;
            }
        }
        return bits;
    }

    private boolean trialFits(int rider, Row seen, int i, int n) {
        for (int k = 0; k < n; k++) {
            trial.pass();
            if (trial.at[rider] != seen.items[i + k]) {
                return false;
            }
        }
        return true;
    }

    // ---- asks

    private static int bodyFor(int kind, int what) {
        int own = kind;
        for (int up = RIDER; up <= CHILD && own > RIDER; up++) {
            int told = what == SIZE ? SIZE_BODIES[own] : MARK_BODIES[own];
            if (told != 0) {
                return told;
            }
            own = NEXT_KIND[own];
        }
        return what == SIZE ? SIZE_BODIES[RIDER] : MARK_BODIES[RIDER];
    }

    private static int answerOf(int body, Stair stair, int rider, Trace trace, int depth) {
        if (depth > DEEPEST_BODY) {
            return 0;
        }
        int deeper = depth + 1;
        trace.leave(body);
        switch (body) {
            case 10:
                return stair.at[rider];
            case 11:
                return answerOf(10, stair, rider, trace, deeper)
                        + answerOf(bodyFor(stair.kind[rider], MARK), stair, rider, trace, deeper);
            case 12:
                return -answerOf(11, stair, rider, trace, deeper);
            case 13:
                return answerOf(10, stair, rider, trace, deeper) - 100;
            case 14:
                return answerOf(13, stair, rider, trace, deeper) * 2;
            case 20:
                return rider;
            case 21:
                return answerOf(20, stair, rider, trace, deeper) + stair.lane[rider];
            case 22:
                return answerOf(21, stair, rider, trace, deeper) - 1000;
            case 23:
                return answerOf(20, stair, rider, trace, deeper)
                        - answerOf(bodyFor(stair.kind[rider], SIZE), stair, rider, trace, deeper);
            case 24:
                return answerOf(21, stair, rider, trace, deeper) * 2;
            default:
                return 0;
        }
    }

    /* The numbers of the bodies that began, in their order. */
    private static final class Trace {
        static final int ROOM = 16;

        final int[] bodies = new int[ROOM];
        int length = 0;

        void leave(int body) {
            if (length < ROOM) {
                bodies[length] = body;
                length++;
            }
        }
    }

    private static final class Row {
        final int[] items = new int[ITEMS];
        boolean missing = true;
        int width = BYTES;
        int length = 0;

        void begin(int itsWidth, int n) {
            missing = false;
            width = itsWidth;
            length = n;
            for (int i = 0; i < ITEMS; i++) {
                items[i] = 0;
            }
        }

        /* Whether n places from i on are there; taken apart so that no sum can overflow. */
        boolean holds(int i, int n) {
            return i >= 0 && n >= 0 && i <= length && n <= length - i;
        }

        int cut(int v) {
            switch (width) {
                case BYTES:
                    return (byte) v;
                case SHORTS:
                    return (short) v;
                default:
                    return v;
            }
        }
    }

    /* The bytes that were fed, and how they are read as a stair. */
    private static final class Tape {
        /* What the next token must be. */
        static final int LAW = 0, STEPS = 1, COMMA = 2, SPEED = 3, LAW_END = 4, SORT = 5, LANE = 6, RIDER_END = 7;
        static final int MISPLACED = 1, NOT_AS_TOLD = 2, NO_ROOM = 3;

        final int[] bytes = new int[TAPE];
        int length = 0;
        int fault = 0;

        void append(int letter) {
            if (length < TAPE) {
                bytes[length] = letter;
                length++;
            }
        }

        /* The place of a fault, the number of which is kept; NONE, if it is read. */
        int readInto(Stair stair) {
            stair.empty();
            int due = LAW;
            int place = 0;
            for (int tokens = 0; tokens < TAPE && place < length; tokens++) {
                int wide = widthOfToken(place);
                int wrong = wide == 0 ? MISPLACED : accept(due, place, wide, stair);
                if (wrong != 0) {
                    fault = wrong;
                    return place;
                }
                due = due == RIDER_END ? SORT : due + 1;
                place += wide;
            }
            if (due != SORT || stair.riders == 0) {
                fault = MISPLACED;
                return length;
            }
            return NONE;
        }

        /* How many bytes the token at a place has; 0, if there is none. */
        int widthOfToken(int place) {
            int first = bytes[place];
            if (first >= 'a' && first <= 'z' || first == ',' || first == ';') {
                return 1;
            }
            int figures = 0;
            while (figures < 3 && isFigure(place + figures)) {
                figures++;
            }
            return figures < 3 ? figures : 0;
        }

        boolean isFigure(int place) {
            return place < length && bytes[place] >= '0' && bytes[place] <= '9';
        }

        /* The number of the token's fault; 0, if it has none and went into the stair. */
        int accept(int due, int place, int wide, Stair stair) {
            switch (due) {
                case LAW:
                    return acceptSign('m', place);
                case STEPS:
                    stair.steps = numberAt(place, wide);
                    return faultOfNumber(stair.steps, LEAST_STEPS, MOST_STEPS);
                case COMMA:
                    return acceptSign(',', place);
                case SPEED:
                    stair.speed = numberAt(place, wide);
                    return faultOfNumber(stair.speed, 0, MOST_SPEED);
                case SORT:
                    return acceptSort(place, stair);
                case LANE:
                    return acceptLane(numberAt(place, wide), stair);
                default:
                    return acceptSign(';', place);
            }
        }

        int acceptSign(int sign, int place) {
            return bytes[place] == sign ? 0 : MISPLACED;
        }

        int acceptSort(int place, Stair stair) {
            int kind = kindOf(bytes[place]);
            if (kind == NONE) {
                return MISPLACED;
            }
            if (stair.riders >= RIDERS) {
                return NO_ROOM;
            }
            stair.kind[stair.riders] = kind;
            return 0;
        }

        int acceptLane(int lane, Stair stair) {
            int wrong = faultOfNumber(lane, 0, 1);
            if (wrong == 0 && stair.riders < RIDERS) {
                stair.lane[stair.riders] = lane;
                stair.riders++;
            }
            return wrong;
        }

        int kindOf(int letter) {
            switch (letter) {
                case 's':
                    return STANDER;
                case 'w':
                    return WALKER;
                case 'r':
                    return RUNNER;
                case 't':
                    return TRUNK;
                case 'c':
                    return CHILD;
                default:
                    return NONE;
            }
        }

        /* NONE, if the token there is no number. */
        int numberAt(int place, int wide) {
            if (!isFigure(place)) {
                return NONE;
            }
            int number = bytes[place] - '0';
            return wide == 2 && isFigure(place + 1) ? number * 10 + bytes[place + 1] - '0' : number;
        }

        int faultOfNumber(int number, int least, int most) {
            if (number == NONE) {
                return MISPLACED;
            }
            return outside(number, least, most) ? NOT_AS_TOLD : 0;
        }
    }

    /* The stair as it was ahead of each of the latest acts. */
    private static final class Acts {
        final Stair[] before = new Stair[ACTS];
        int next = 0;
        int kept = 0;

        Acts() {
            for (int i = 0; i < ACTS; i++) {
                before[i] = new Stair();
            }
        }

        void keep(Stair stair) {
            before[next].become(stair);
            next = (next + 1) % ACTS;
            kept = Math.min(kept + 1, ACTS);
        }

        void takeBack(Stair stair) {
            next = (next + ACTS - 1) % ACTS;
            stair.become(before[next]);
            kept = Math.max(kept - 1, 0);
        }

        void forgetAll() {
            kept = 0;
        }
    }

    private static final class Stair {
        static final int DONE = -1;

        int steps = 0;
        int speed = 0;
        int tick = 0;
        int riders = 0;
        final int[] kind = new int[RIDERS];
        final int[] lane = new int[RIDERS];
        /* The step of each rider, or QUEUE, or OFF. */
        final int[] at = new int[RIDERS];
        /* Within a tick, who goes first: the greatest first; DONE, who went, or goes not at all. */
        final int[] turn = new int[RIDERS];

        void empty() {
            steps = 0;
            speed = 0;
            tick = 0;
            riders = 0;
            for (int rider = 0; rider < RIDERS; rider++) {
                at[rider] = QUEUE;
            }
        }

        void become(Stair other) {
            steps = other.steps;
            speed = other.speed;
            tick = other.tick;
            riders = other.riders;
            System.arraycopy(other.kind, 0, kind, 0, RIDERS);
            System.arraycopy(other.lane, 0, lane, 0, RIDERS);
            System.arraycopy(other.at, 0, at, 0, RIDERS);
        }

        // ---- who is where

        boolean isOn(int rider) {
            return at[rider] >= 0 && at[rider] < steps;
        }

        boolean takesBoth(int rider) {
            return kind[rider] >= TRUNK;
        }

        /* Asked in the innermost of all loops, so it looks at the kinds itself. */
        boolean isFree(int rider, int step) {
            boolean both = kind[rider] >= TRUNK;
            for (int other = 0; other < riders; other++) {
                if (other != rider && at[other] == step
                        && (both || kind[other] >= TRUNK || lane[other] == lane[rider])) {
                    return false;
                }
            }
            return true;
        }

        boolean mayGo(int rider, int step) {
            return step >= 0 && step < steps && isFree(rider, step);
        }

        /* One who takes both places has the other lane's already. */
        boolean mayCross(int rider) {
            return !isOn(rider) || takesBoth(rider) || whoTakes(at[rider], 1 - lane[rider]) == 0;
        }

        int whoTakes(int step, int place) {
            int bits = 0;
            for (int rider = 0; rider < riders; rider++) {
                if (at[rider] == step && (lane[rider] == place || takesBoth(rider))) {
                    bits |= 1 << rider;
                }
            }
            return bits;
        }

        int whoIsAt(int where) {
            int bits = 0;
            for (int rider = 0; rider < riders; rider++) {
                if (at[rider] == where) {
                    bits |= 1 << rider;
                }
            }
            return bits;
        }

        int howManyAt(int where) {
            return Integer.bitCount(whoIsAt(where));
        }

        int stepsTaken() {
            int bits = 0;
            for (int rider = 0; rider < riders; rider++) {
                if (isOn(rider)) {
                    bits |= 1 << at[rider];
                }
            }
            return bits;
        }

        boolean isClear() {
            return howManyAt(OFF) == riders;
        }

        // ---- changes that are no ticks

        void sendBack(int rider, int itsLane) {
            at[rider] = QUEUE;
            lane[rider] = itsLane;
        }

        void putInLanes(int who, int inLaneOne) {
            for (int rider = 0; rider < riders; rider++) {
                if ((who >> rider & 1) == 1) {
                    lane[rider] = inLaneOne >> rider & 1;
                }
            }
        }

        void takeOff(int who) {
            for (int rider = 0; rider < riders; rider++) {
                if ((who >> rider & 1) == 1) {
                    at[rider] = OFF;
                }
            }
        }

        void draw(int x) {
            if (riders == 0) {
                return;
            }
            if (x % 4 == 0) {
                speed = x % 3;
            }
            if (at[x % riders] == OFF) {
                sendBack(x % riders, x % 2);
            }
        }

        // ---- a tick

        /* One tick: how many went off. */
        int pass() {
            giveTurns();
            for (int i = 0; i < riders; i++) {
                int rider = nextInTurn();
                if (rider == NONE) {
                    break;
                }
                turn[rider] = DONE;
                go(rider);
            }
            int gone = carry();
            letOneOn();
            tick++;
            return gone;
        }

        void giveTurns() {
            for (int rider = 0; rider < riders; rider++) {
                turn[rider] = goes(rider) ? at[rider] * 16 + (1 - lane[rider]) * 8 + RIDERS - rider : DONE;
            }
        }

        boolean goes(int rider) {
            if (!isOn(rider)) {
                return false;
            }
            int its = kind[rider];
            return its == WALKER || its == RUNNER || its == CHILD && tick % 2 == 1;
        }

        int nextInTurn() {
            int first = NONE;
            int most = DONE;
            for (int rider = 0; rider < riders; rider++) {
                if (turn[rider] > most) {
                    most = turn[rider];
                    first = rider;
                }
            }
            return first;
        }

        void go(int rider) {
            int toward = kind[rider] == CHILD ? -1 : 1;
            int times = kind[rider] == RUNNER ? 2 : 1;
            for (int i = 0; i < times; i++) {
                if (!mayGo(rider, at[rider] + toward)) {
                    break;
                }
                at[rider] += toward;
            }
        }

        int carry() {
            int gone = 0;
            for (int rider = 0; rider < riders; rider++) {
                if (isOn(rider)) {
                    at[rider] += speed;
                    if (at[rider] >= steps) {
                        at[rider] = OFF;
                        gone++;
                    }
                }
            }
            return gone;
        }

        void letOneOn() {
            for (int rider = 0; rider < riders; rider++) {
                if (at[rider] == QUEUE && isFree(rider, 0)) {
                    at[rider] = 0;
                    break;
                }
            }
        }

        // ---- many ticks

        /* Behind how many ticks, of 'most', a rider is off first; NONE. */
        int passUntilOff(int rider, int most) {
            for (int behind = 0; behind <= most; behind++) {
                if (at[rider] == OFF) {
                    return behind;
                }
                if (nobodyGoesOff()) {
                    break;
                }
                pass();
            }
            return NONE;
        }

        /* Behind how many ticks, of 'most', all are off first; NONE. */
        int passUntilClear(int most) {
            for (int behind = 0; behind <= most; behind++) {
                if (isClear()) {
                    return behind;
                }
                if (nobodyGoesOff()) {
                    break;
                }
                pass();
            }
            return NONE;
        }

        /* Riders leave only by being carried, so a stair that rests need not be tried any longer. */
        boolean nobodyGoesOff() {
            return speed == 0;
        }
    }
}
