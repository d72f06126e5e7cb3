import java.util.Arrays;

/** Locks by consent of the water. What each call answers is told, as numbered promises, in the document. */
public final class WaterConsent {
    public static final int UNKNOWN = -1, OUTSIDE = -2, STATE = -3, FULL = -4, NONE = -9;
    public static final long LOST = Long.MIN_VALUE;

    private static final int NO_FAULT = 0, NULL = 1, CAST = 2, INDEX = 3, SIZE = 4;
    private static final int MILD = 0, PROUD = 1, SULKY = 2;
    private static final int KIND = 0, LEVEL = 1, LIMIT = 2, WANT = 3;
    private static final int HIGHEST = 9, MOST_RAIN = 3, MOST_REACHES = 4;
    private static final int MOST_ACTS = 40, MOST_NIGHTS = 40, MOST_ODDS_NIGHTS = 8, MOST_READINGS = 8;
    private static final int SHEETS = 4, MOST_CELLS = 60, BYTES = 0, SHORTS = 1, INTS = 2;
    private static final int OWN_FLATTERY = 70;

    private final Sheet[] sheets = new Sheet[SHEETS];
    private final Canal canal = new Canal();
    // What is only tried is done here, so that the canal itself stays as it is.
    private final Canal trial = new Canal();
    private final Readings readings = new Readings();
    private final Search search = new Search();
    private int trace;
    private int fault;

    public WaterConsent() {
        for (int k = 0; k < sheets.length; k++) {
            sheets[k] = new Sheet();
        }
    }

    // ---- 1 the canal

    public int canal(int sheet, int lane, int i, int n) {
        fault = NO_FAULT;
        Sheet from = sheetAt(sheet);
        if (from == null) {
            return UNKNOWN;
        }
        if (!isLane(lane)) {
            return OUTSIDE;
        }
        int come = from.faultOf(lane, i, n);
        if (come != NO_FAULT) {
            return faulted(come);
        }
        int wrong = Text.firstFault(from, i, n);
        if (wrong != Text.WHOLE) {
            return -100 - wrong;
        }
        Text.take(from, i, n, canal);
        readings.count = 0;
        return canal.count;
    }

    public int ofReach(int r, int what) {
        if (!canal.has(r)) {
            return UNKNOWN;
        }
        switch (what) {
            case KIND:
                return canal.kindOf(r);
            case LEVEL:
                return canal.levelOf(r);
            case LIMIT:
                return canal.limitOf(r);
            case WANT:
                return canal.wantOf(r);
            default:
                return OUTSIDE;
        }
    }

    public int fill(int r, int v) {
        if (!canal.has(r)) {
            return UNKNOWN;
        }
        if (!isFrom0To(v, HIGHEST)) {
            return OUTSIDE;
        }
        int was = canal.levelOf(r);
        canal.become(r, LEVEL, v);
        return was;
    }

    public int rain(int v) {
        if (!isFrom0To(v, MOST_RAIN)) {
            return OUTSIDE;
        }
        if (canal.isNone()) {
            return STATE;
        }
        int was = canal.rain;
        canal.rain = v;
        return was;
    }

    // ---- 2 acts

    public int gates() {
        return canal.isNone() ? STATE : canal.gatesThatMayBeOpened();
    }

    public int open(int g) {
        if (!canal.hasGate(g)) {
            return UNKNOWN;
        }
        if (!canal.mayBeOpened(g)) {
            return STATE;
        }
        canal.letThrough(g);
        return canal.levelOf(g + 1);
    }

    public int nights(int n) {
        if (!isFrom0To(n, MOST_NIGHTS)) {
            return OUTSIDE;
        }
        if (canal.isNone()) {
            return STATE;
        }
        for (int night = 0; night < n; night++) {
            canal.passNight();
        }
        return canal.levelOf(0);
    }

    public int acts(int sheet, int lane, int i, int n, int what) {
        fault = NO_FAULT;
        Sheet from = sheetAt(sheet);
        if (from == null) {
            return UNKNOWN;
        }
        if (!isLane(lane) || !isFrom0To(n, MOST_ACTS) || !isWhatOfActs(what)) {
            return OUTSIDE;
        }
        if (canal.isNone()) {
            return STATE;
        }
        int come = from.faultOf(lane, i, n);
        if (come != NO_FAULT) {
            return faulted(come);
        }
        if (!areActs(from, i, n)) {
            return OUTSIDE;
        }
        trial.takeOver(canal);
        int silence = actOnTrial(from, i, n);
        if (what == 1) {
            return silence;
        }
        return silence == NONE ? behindActs(from, i, n, what) : -100 - silence;
    }

    private static boolean isWhatOfActs(int what) {
        return isFrom0To(what, 3) || what >= 10 && what < 10 + MOST_REACHES;
    }

    private boolean areActs(Sheet from, int i, int n) {
        for (int k = 0; k < n; k++) {
            if (!isFrom0To(from.cellAt(i + k), canal.lastReach())) {
                return false;
            }
        }
        return true;
    }

    /** Does the acts on the trial: the silence, or NONE. */
    private int actOnTrial(Sheet from, int i, int n) {
        for (int k = 0; k < n; k++) {
            int act = from.cellAt(i + k);
            if (act == trial.lastReach()) {
                trial.passNight();
            } else if (trial.mayBeOpened(act)) {
                trial.letThrough(act);
            } else {
                return k;
            }
        }
        return NONE;
    }

    private int behindActs(Sheet from, int i, int n, int what) {
        switch (what) {
            case 0:
                return trial.levelsTogether();
            case 2:
                return openingsAmong(from, i, n);
            case 3:
                return trial.gatesThatMayBeOpened();
            default:
                return trial.has(what - 10) ? trial.levelOf(what - 10) : NONE;
        }
    }

    private int openingsAmong(Sheet from, int i, int n) {
        int openings = 0;
        for (int k = 0; k < n; k++) {
            if (from.cellAt(i + k) != canal.lastReach()) {
                openings++;
            }
        }
        return openings;
    }

    // ---- 3 boats, levels

    public int boat(int from, int to, int k) {
        if (!canal.has(from) || !canal.has(to)) {
            return UNKNOWN;
        }
        if (to <= from) {
            return STATE;
        }
        if (!isPlaceOfRow(k)) {
            return OUTSIDE;
        }
        search.aimBoatAt(to);
        search.look(canal, from);
        return search.actAt(k);
    }

    public int raise(int r, int v, int k) {
        if (!canal.has(r)) {
            return UNKNOWN;
        }
        if (!isFrom0To(v, HIGHEST) || !isPlaceOfRow(k)) {
            return OUTSIDE;
        }
        search.aimAtLevel(r, v);
        search.look(canal, Search.NO_BOAT);
        return search.actAt(k);
    }

    private static boolean isPlaceOfRow(int k) {
        return k >= -1 && k < MOST_ACTS;
    }

    // ---- 4 who gave consent

    public int reading(int r, int v, boolean did) {
        if (!canal.has(r)) {
            return UNKNOWN;
        }
        if (v != NONE && !isFrom0To(v, HIGHEST)) {
            return OUTSIDE;
        }
        return readings.note(r, v, did) ? readings.count - 1 : FULL;
    }

    public int back(int k) {
        if (!isFrom0To(k, readings.count)) {
            return OUTSIDE;
        }
        readings.count -= k;
        return readings.count;
    }

    public int limits(int r) {
        return numbersThatFit(r, LIMIT, HIGHEST);
    }

    public int kinds(int r) {
        return numbersThatFit(r, KIND, SULKY);
    }

    public int levels(int r) {
        return numbersThatFit(r, LEVEL, HIGHEST);
    }

    /** The numbers, as a set, that a reach may have in place of its own, so that all readings are so. */
    private int numbersThatFit(int r, int what, int highest) {
        if (!canal.has(r)) {
            return UNKNOWN;
        }
        trial.takeOver(canal);
        int set = 0;
        for (int v = 0; v <= highest; v++) {
            trial.become(r, what, v);
            if (readings.areSoIn(trial)) {
                set |= 1 << v;
            }
        }
        return set;
    }

    public long odds(int n, int v, int which) {
        if (canal.isNone()) {
            return LOST;
        }
        if (!isFrom0To(n, MOST_ODDS_NIGHTS) || !isFrom0To(v, HIGHEST) || !isFrom0To(which, 1)) {
            return LOST;
        }
        int all = 1 << n;
        int good = 0;
        for (int rainy = 0; rainy < all; rainy++) {
            if (levelBehindRain(Integer.bitCount(rainy)) >= v) {
                good++;
            }
        }
        int both = greatestCommon(good, all);
        if (both < 1) {
            return LOST;
        }
        return which == 0 ? good / both : all / both;
    }

    private int levelBehindRain(int nights) {
        return Math.min(HIGHEST, canal.levelOf(0) + nights * canal.rain);
    }

    private static int greatestCommon(int a, int b) {
        int high = a;
        int low = b;
        // Each pass but the first makes the lower number less: far fewer are needed than there are.
        for (int pass = 0; pass < 64 && low > 0; pass++) {
            int rest = high % low;
            high = low;
            low = rest;
        }
        return high;
    }

    // ---- 5 sheets, parts

    public int sheet(int k, int lane, int n) {
        fault = NO_FAULT;
        Sheet of = sheetAt(k);
        if (of == null) {
            return UNKNOWN;
        }
        if (!isLane(lane) || n > MOST_CELLS) {
            return OUTSIDE;
        }
        if (n < 0) {
            return faulted(SIZE);
        }
        of.becomeNew(lane, n);
        return 1;
    }

    public int lose(int k) {
        Sheet of = sheetAt(k);
        if (of == null) {
            return UNKNOWN;
        }
        int had = of.there ? 1 : 0;
        of.there = false;
        return had;
    }

    public int put(int k, int i, int v) {
        fault = NO_FAULT;
        Sheet of = sheetAt(k);
        if (of == null) {
            return UNKNOWN;
        }
        int come = of.faultOf(of.lane, i, 1);
        if (come != NO_FAULT) {
            return faulted(come);
        }
        of.setCell(i, v);
        return 1;
    }

    public long cell(int k, int i, int lane) {
        fault = NO_FAULT;
        Sheet of = sheetAt(k);
        if (of == null || !isLane(lane)) {
            return LOST;
        }
        fault = of.faultOf(lane, i, 1);
        return fault == NO_FAULT ? of.cellAt(i) : LOST;
    }

    public int copy(int k, int i, int other, int j, int n) {
        fault = NO_FAULT;
        Sheet from = sheetAt(k);
        Sheet to = sheetAt(other);
        if (from == null || to == null) {
            return UNKNOWN;
        }
        if (!from.there || !to.there) {
            return faulted(NULL);
        }
        if (from.lane != to.lane) {
            return faulted(CAST);
        }
        if (!from.hasCells(i, n) || !to.hasCells(j, n)) {
            return faulted(INDEX);
        }
        System.arraycopy(from.cells, i, to.cells, j, n);
        return n;
    }

    public int tell(int r) {
        if (!canal.has(r)) {
            return UNKNOWN;
        }
        switch (canal.kindOf(r)) {
            case SULKY:
                return tellingOfSulky(r);
            case PROUD:
                return tellingOfProud(r);
            default:
                return tellingOfMild(r);
        }
    }

    private int tellingOfMild(int r) {
        leave(1);
        return canal.limitOf(r);
    }

    private int tellingOfProud(int r) {
        leave(2);
        return tellingOfMild(r) + 100;
    }

    private int tellingOfSulky(int r) {
        leave(3);
        int first = tellingOfProud(r);
        return first + tellingOfMild(r);
    }

    public int flatter(int r) {
        if (!canal.has(r)) {
            return UNKNOWN;
        }
        return canal.kindOf(r) == SULKY ? flatteryOfSulky() : flatteryLent(r);
    }

    private int flatteryLent(int r) {
        leave(4);
        return r;
    }

    private int flatteryOfSulky() {
        leave(5);
        return OWN_FLATTERY;
    }

    private void leave(int body) {
        trace = 31 * trace + body;
    }

    public int as(int r, int kind) {
        fault = NO_FAULT;
        if (!canal.has(r)) {
            return UNKNOWN;
        }
        if (!isFrom0To(kind, SULKY)) {
            return OUTSIDE;
        }
        // Each kind is one of all the kinds with a lower number, too.
        return canal.kindOf(r) >= kind ? 1 : faulted(CAST);
    }

    public int trace() {
        return trace;
    }

    public int fault() {
        return fault;
    }

    public int many(int what) {
        switch (what) {
            case 0:
                return canal.count;
            case 1:
                return canal.rain;
            case 2:
                return canal.levelsTogether();
            case 3:
                return readings.count;
            default:
                return OUTSIDE;
        }
    }

    private Sheet sheetAt(int k) {
        return k >= 0 && k < sheets.length ? sheets[k] : null;
    }

    private int faulted(int come) {
        fault = come;
        return -10 - come;
    }

    private static boolean isLane(int lane) {
        return lane >= BYTES && lane <= INTS;
    }

    private static boolean isFrom0To(int v, int highest) {
        return v >= 0 && v <= highest;
    }

    /** Nothing, or a row of numbers of one lane. */
    private static final class Sheet {
        boolean there;
        int lane;
        int count;
        final int[] cells = new int[MOST_CELLS];

        void becomeNew(int newLane, int n) {
            there = true;
            lane = newLane;
            count = n;
            Arrays.fill(cells, 0);
        }

        boolean hasCells(int i, int n) {
            return i >= 0 && n >= 0 && i <= count && n <= count - i && count <= cells.length;
        }

        /** The fault that is first come to, if n cells from i on are taken as a row of a lane. */
        int faultOf(int ofLane, int i, int n) {
            if (!there) {
                return NULL;
            }
            if (lane != ofLane) {
                return CAST;
            }
            if (n < 0) {
                return SIZE;
            }
            return hasCells(i, n) ? NO_FAULT : INDEX;
        }

        int cellAt(int i) {
            return i >= 0 && i < count && i < cells.length ? cells[i] : 0;
        }

        void setCell(int i, int v) {
            if (i >= 0 && i < count && i < cells.length) {
                cells[i] = cutToLane(v);
            }
        }

        private int cutToLane(int v) {
            switch (lane) {
                case BYTES:
                    return (byte) v;
                case SHORTS:
                    return (short) v;
                default:
                    return v;
            }
        }
    }

    /** Reaches one below another, and the rain on the first one. */
    private static final class Canal {
        int count;
        int rain;
        private final int[] kind = new int[MOST_REACHES];
        private final int[] level = new int[MOST_REACHES];
        private final int[] limit = new int[MOST_REACHES];

        boolean isNone() {
            return count == 0;
        }

        boolean has(int r) {
            return r >= 0 && r < count && r < MOST_REACHES;
        }

        /** The last reach's number; as many as there are gates, and so the act that is a night, too. */
        int lastReach() {
            return count - 1;
        }

        boolean hasGate(int g) {
            return has(g) && g < lastReach();
        }

        int kindOf(int r) {
            return has(r) && r < kind.length ? kind[r] : MILD;
        }

        int levelOf(int r) {
            return has(r) && r < level.length ? level[r] : 0;
        }

        int limitOf(int r) {
            return has(r) && r < limit.length ? limit[r] : 0;
        }

        int wantOf(int r) {
            int proud = Math.max(0, limitOf(r) - 1);
            switch (kindOf(r)) {
                case SULKY:
                    return proud / 2;
                case PROUD:
                    return proud;
                default:
                    return limitOf(r);
            }
        }

        void become(int r, int what, int v) {
            if (!has(r)) {
                return;
            }
            if (what == KIND && r < kind.length) {
                kind[r] = v;
            } else if (what == LEVEL && r < level.length) {
                level[r] = v;
            } else if (what == LIMIT && r < limit.length) {
                limit[r] = v;
            }
        }

        void takeOver(Canal other) {
            count = other.count;
            rain = other.rain;
            for (int r = 0; r < count; r++) {
                become(r, KIND, other.kindOf(r));
                become(r, LEVEL, other.levelOf(r));
                become(r, LIMIT, other.limitOf(r));
            }
        }

        boolean mayBeOpened(int g) {
            return hasGate(g) && levelOf(g) >= 1 && levelOf(g + 1) < wantOf(g + 1);
        }

        int gatesThatMayBeOpened() {
            int set = 0;
            for (int g = 0; g < lastReach(); g++) {
                if (mayBeOpened(g)) {
                    set |= 1 << g;
                }
            }
            return set;
        }

        void letThrough(int g) {
            become(g, LEVEL, levelOf(g) - 1);
            become(g + 1, LEVEL, levelOf(g + 1) + 1);
        }

        void passNight() {
            become(0, LEVEL, Math.min(HIGHEST, levelOf(0) + rain));
            become(lastReach(), LEVEL, Math.max(0, levelOf(lastReach()) - 1));
        }

        int levelsTogether() {
            int sum = 0;
            for (int r = 0; r < count; r++) {
                sum += levelOf(r);
            }
            return sum;
        }
    }

    /** The codes by which a canal is told: two ahead of the reaches, then four of each. */
    private static final class Text {
        static final int WHOLE = -1;
        private static final int AHEAD = 2, OF_REACH = 4, LEAST_REACHES = 2;
        private static final int SHORTEST = AHEAD + LEAST_REACHES * OF_REACH;
        private static final int LONGEST = AHEAD + MOST_REACHES * OF_REACH;

        private Text() {
        }

        /** The place of the first fault, or WHOLE. */
        static int firstFault(Sheet from, int i, int n) {
            int looked = Math.min(n, LONGEST);
            for (int place = 0; place < looked; place++) {
                if (!goesOn(place, from.cellAt(i + place))) {
                    return place;
                }
            }
            if (looked < SHORTEST || (looked - AHEAD) % OF_REACH != 0) {
                return looked;
            }
            return n > LONGEST ? LONGEST : WHOLE;
        }

        private static boolean goesOn(int place, int code) {
            if (place == 0) {
                return code == 'l';
            }
            if (place == 1) {
                return code >= '0' && code <= '0' + MOST_RAIN;
            }
            switch ((place - AHEAD) % OF_REACH) {
                case 0:
                    return code == ';';
                case 1:
                    return code == 'm' || code == 'p' || code == 's';
                default:
                    return code >= '0' && code <= '9';
            }
        }

        static void take(Sheet from, int i, int n, Canal canal) {
            canal.rain = from.cellAt(i + 1) - '0';
            canal.count = (n - AHEAD) / OF_REACH;
            for (int r = 0; r < canal.count; r++) {
                int reach = i + AHEAD + r * OF_REACH;
                canal.become(r, KIND, kindOfLetter(from.cellAt(reach + 1)));
                canal.become(r, LEVEL, from.cellAt(reach + 2) - '0');
                canal.become(r, LIMIT, from.cellAt(reach + 3) - '0');
            }
        }

        private static int kindOfLetter(int code) {
            if (code == 's') {
                return SULKY;
            }
            return code == 'p' ? PROUD : MILD;
        }
    }

    /** What reaches answered when they were asked. */
    private static final class Readings {
        int count;
        private final int[] reach = new int[MOST_READINGS];
        private final int[] level = new int[MOST_READINGS];
        private final boolean[] did = new boolean[MOST_READINGS];

        /** Whether there was room for one more. */
        boolean note(int r, int v, boolean consented) {
            if (count < 0 || count >= MOST_READINGS) {
                return false;
            }
            reach[count] = r;
            level[count] = v;
            did[count] = consented;
            count++;
            return true;
        }

        boolean areSoIn(Canal canal) {
            for (int i = 0; i < count && i < MOST_READINGS; i++) {
                int asked = level[i] == NONE ? canal.levelOf(reach[i]) : level[i];
                if (asked < canal.wantOf(reach[i]) != did[i]) {
                    return false;
                }
            }
            return true;
        }
    }

    /**
     * The fewest acts to a goal. States are come to in the order of the first rows that lead there, shorter
     * ones ahead; so the first row that is found is the first of the shortest ones.
     */
    private static final class Search {
        // A state: the boat's reach, and behind it a digit for the level of each of four reaches.
        private static final int BOAT = 10000, STATES = MOST_REACHES * BOAT;
        // No gate is below the fourth reach: a boat there stays.
        static final int NO_BOAT = 3;
        private static final int ACTS = 4;

        // The state ahead and the act behind it, from 1 on; 0: not come to.
        private final int[] cameBy = new int[STATES];
        private final int[] queue = new int[STATES];
        private int tail;
        private final int[] row = new int[MOST_ACTS];
        private int length = NONE;
        // All that the row depends on: a row is mostly asked for act by act, and looked for once.
        private long known = -1;

        private int lastReach;
        private int rain;
        private int wants;
        private boolean byBoat;
        private int goalReach;
        private int goalLevel;

        void aimBoatAt(int r) {
            byBoat = true;
            goalReach = r;
            goalLevel = 0;
        }

        void aimAtLevel(int r, int v) {
            byBoat = false;
            goalReach = r;
            goalLevel = v;
        }

        /** How many acts there are (k -1), act k, or NONE. */
        int actAt(int k) {
            if (k == -1) {
                return length;
            }
            return k >= 0 && k < length && k < row.length ? row[k] : NONE;
        }

        void look(Canal canal, int boat) {
            int start = boat * BOAT;
            lastReach = canal.lastReach();
            rain = canal.rain;
            wants = 0;
            for (int r = 0; r <= lastReach; r++) {
                start += canal.levelOf(r) * weight(r);
                wants += canal.wantOf(r) * weight(r);
            }
            long key = keyOf(start);
            if (key != known) {
                known = key;
                find(start);
            }
        }

        private long keyOf(int start) {
            long key = start * 10000L + wants;
            key = (key * 4 + rain) * 4 + lastReach;
            key = (key * 2 + (byBoat ? 1 : 0)) * 4 + goalReach;
            return key * 10 + goalLevel;
        }

        private void find(int start) {
            forgetStates();
            length = NONE;
            if (isGoal(start)) {
                length = 0;
                return;
            }
            comeTo(start, start, 0);
            int head = 0;
            for (int depth = 1; depth <= MOST_ACTS && head < tail; depth++) {
                int end = tail;
                for (; head < end && head < queue.length; head++) {
                    int goal = goOnFrom(queue[head]);
                    if (goal != NONE) {
                        length = depth;
                        keepRowTo(goal);
                        return;
                    }
                }
            }
        }

        private void forgetStates() {
            for (int i = 0; i < tail && i < queue.length; i++) {
                int state = queue[i];
                if (isState(state)) {
                    cameBy[state] = 0;
                }
            }
            tail = 0;
        }

        /** Comes to all states behind this one; the goal, if it is among them, else NONE. */
        private int goOnFrom(int state) {
            for (int act = 0; act <= lastReach; act++) {
                int next = act == lastReach ? behindNight(state) : behindOpening(state, act);
                if (comeTo(next, state, act) && isGoal(next)) {
                    return next;
                }
            }
            return NONE;
        }

        private int behindNight(int state) {
            int first = digit(state, 0);
            int next = state + (Math.min(HIGHEST, first + rain) - first) * weight(0);
            return digit(state, lastReach) > 0 ? next - weight(lastReach) : next;
        }

        private int behindOpening(int state, int g) {
            if (digit(state, g) < 1 || digit(state, g + 1) >= digit(wants, g + 1)) {
                return NONE;
            }
            int next = state - weight(g) + weight(g + 1);
            return state / BOAT == g ? next + BOAT : next;
        }

        /** Whether the state is one, and was not come to ahead. */
        private boolean comeTo(int state, int ahead, int act) {
            if (!isState(state) || cameBy[state] != 0 || tail < 0 || tail >= queue.length) {
                return false;
            }
            cameBy[state] = 1 + ahead * ACTS + act;
            queue[tail] = state;
            tail++;
            return true;
        }

        private boolean isState(int state) {
            return state >= 0 && state < cameBy.length;
        }

        private boolean isGoal(int state) {
            return byBoat ? state / BOAT == goalReach : digit(state, goalReach) >= goalLevel;
        }

        private void keepRowTo(int goal) {
            int state = goal;
            for (int k = Math.min(length, row.length) - 1; k >= 0 && isState(state); k--) {
                int by = cameBy[state] - 1;
                row[k] = by % ACTS;
                state = by / ACTS;
            }
        }

        private static int digit(int state, int r) {
            switch (r) {
                case 0:
                    return state / 1000 % 10;
                case 1:
                    return state / 100 % 10;
                case 2:
                    return state / 10 % 10;
                default:
                    return state % 10;
            }
        }

        private static int weight(int r) {
            switch (r) {
                case 0:
                    return 1000;
                case 1:
                    return 100;
                case 2:
                    return 10;
                default:
                    return 1;
            }
        }
    }
}
