import java.util.Arrays;

/** A hill of glass and those who ride up it; what each call does is told in the document. */
public final class GlassHill {
    public static final int UNKNOWN = -1, OUTSIDE = -2, STATE = -3, FULL = -4, NONE = -9;
    public static final long LOST = Long.MIN_VALUE;

    private static final int NULL = 1, CAST = 2, INDEX = 3, SIZE = 4;
    private static final int FAULT_BASE = -10, PLACE_BASE = -100;

    private static final int MOST_PACES = 8, MOST_RIDERS = 5, MOST_SCRATCHES = 9;
    private static final int MOST_SPEED = 99, MOST_NAILS = 9, MOST_SLICK = 9;
    private static final int RIDER = 0, NIGHT = 1, LAD = 2;

    private static final int SHEETS = 4, LANES = 3, MOST_CELLS = 60, BYTES = 0, SHORTS = 1;

    private static final int RAIN = 5, MOST_STEPS = 30, MOST_ODDS_STEPS = 10;
    private static final int MOST_TRIES = 6, MOST_TURNS = 10;
    private static final int OF_PACES = 10, OF_RIDERS = 20;

    /** Ordered as the first one likes them, so that each chooses by comparing. */
    private static final int OTHER_WINS = -1, NOBODY_WINS = 0, FIRST_WINS = 1;

    private static final int A_SPEED = 0, A_NAILS = 1, A_SLICK = 2, A_KIND = 3;

    private final Slope slope;
    private final Readings readings;
    private final Row[] sheets;
    /** One for each depth of a search, made once: a search makes nothing. */
    private final Climb[] climbs;
    private final int[] steps;
    private final int[] row;
    private int trace;
    private int fault;

    public GlassHill() {
        slope = new Slope();
        readings = new Readings();
        sheets = new Row[SHEETS];
        for (int k = 0; k < SHEETS; k++) {
            sheets[k] = new Row();
        }
        climbs = new Climb[MOST_TURNS + 1];
        for (int depth = 0; depth <= MOST_TURNS; depth++) {
            climbs[depth] = new Climb(slope);
        }
        steps = new int[MOST_STEPS];
        row = new int[MOST_TRIES];
    }

    // ---- 1 the hill

    public int hill(int sheet, int lane, int i, int n) {
        fault = 0;
        if (!isSheet(sheet)) {
            return UNKNOWN;
        }
        if (!isLane(lane)) {
            return OUTSIDE;
        }
        Row text = sheets[sheet];
        int met = faultOfCells(text, lane, i, n);
        if (met != 0) {
            return meet(met);
        }
        int place = Text.firstFault(text, i, n);
        if (place != NONE) {
            return PLACE_BASE - place;
        }
        Text.build(slope, text, i, n);
        readings.count = 0;
        return slope.riders;
    }

    public int ofPace(int p, int what) {
        if (!isPace(p)) {
            return UNKNOWN;
        }
        if (!isIn(what, 0, 1)) {
            return OUTSIDE;
        }
        return what == 0 ? slope.slick[p] : slope.laid[p];
    }

    public int ofRider(int r, int what) {
        if (!isRider(r)) {
            return UNKNOWN;
        }
        if (!isIn(what, 0, 2)) {
            return OUTSIDE;
        }
        if (what == 0) {
            return slope.kind[r];
        }
        return what == 1 ? slope.speed[r] : slope.nails[r];
    }

    public int scratch(int p, int v) {
        if (!isPace(p)) {
            return UNKNOWN;
        }
        if (!isIn(v, 0, MOST_SCRATCHES)) {
            return OUTSIDE;
        }
        int had = slope.laid[p];
        slope.laid[p] = v;
        return had;
    }

    public int speed(int r, int v) {
        if (!isRider(r)) {
            return UNKNOWN;
        }
        if (!isIn(v, 0, MOST_SPEED)) {
            return OUTSIDE;
        }
        return slope.exchange(A_SPEED, r, v);
    }

    public int shoe(int r, int v) {
        if (!isRider(r)) {
            return UNKNOWN;
        }
        if (!isIn(v, 0, MOST_NAILS)) {
            return OUTSIDE;
        }
        return slope.exchange(A_NAILS, r, v);
    }

    public int takes(int r, int p, int scratches) {
        if (!isRider(r) || !isPace(p)) {
            return UNKNOWN;
        }
        if (!isIn(scratches, 0, MOST_SCRATCHES)) {
            return OUTSIDE;
        }
        return slope.toll(r, p, scratches);
    }

    // ---- 2 days

    public int days(int sheet, int lane, int i, int n, int what) {
        boolean told = isIn(what, 0, 2)
                || isIn(what, OF_PACES, OF_PACES + MOST_PACES - 1)
                || isIn(what, OF_RIDERS, OF_RIDERS + MOST_RIDERS - 1);
        int refused = readSteps(sheet, lane, i, n, isIn(n, 0, MOST_STEPS) && told);
        if (refused != 0) {
            return refused;
        }
        int wrong = firstWrong(n);
        if (what == 1) {
            return wrong;
        }
        if (wrong != NONE) {
            return PLACE_BASE - wrong;
        }
        if (what == 0) {
            return climbs[0].up;
        }
        if (what == 2) {
            return firstUp(n);
        }
        return what < OF_RIDERS
                ? climbs[0].scratchesOf(what - OF_PACES)
                : climbs[0].heightOf(what - OF_RIDERS);
    }

    // ---- 3 the fewest, sand, turns

    public int fewest(int r, int k) {
        if (!isRider(r) || k < -1) {
            return UNKNOWN;
        }
        int length = fewestTries(r);
        if (k == -1) {
            return length;
        }
        return k < length ? row[k] : NONE;
    }

    public int sand(int r) {
        if (!isRider(r)) {
            return UNKNOWN;
        }
        int best = (1 << slope.paces) - 1;
        for (int set = best - 1; set >= 0; set--) {
            if (Integer.bitCount(set) <= Integer.bitCount(best) && slope.isUpWithSand(r, set)) {
                best = set;
            }
        }
        return best;
    }

    public int game(int r, int other, int n) {
        if (!isRider(r) || !isRider(other)) {
            return UNKNOWN;
        }
        if (r == other || !isIn(n, 0, MOST_TURNS)) {
            return OUTSIDE;
        }
        climbs[0].begin();
        int winner = bestPlay(climbs, r, other, 0, n);
        return winner == OTHER_WINS ? 2 : winner;
    }

    public int worth(int r) {
        if (!isRider(r)) {
            return UNKNOWN;
        }
        return 100 + heightsOfOthers(r, true) - heightsOfOthers(r, false);
    }

    // ---- 4 what was seen

    public int reading(int r, int height) {
        if (!isRider(r)) {
            return UNKNOWN;
        }
        if (!isIn(height, 0, MOST_PACES)) {
            return OUTSIDE;
        }
        if (readings.isFull()) {
            return FULL;
        }
        return readings.add(r, height);
    }

    public int back(int k) {
        if (!isIn(k, 0, readings.count)) {
            return OUTSIDE;
        }
        readings.count -= k;
        return readings.count;
    }

    public int speeds(int r, int sheet, int lane, int i, int n, int which) {
        int refused = readSeen(isRider(r), sheet, lane, i, n, isIn(which, 0, 1));
        if (refused != 0) {
            return refused;
        }
        int was = slope.speed[r];
        int count = 0;
        int least = NONE;
        for (int v = MOST_SPEED; v >= 0; v--) {
            if (isSeenWith(A_SPEED, r, v, n)) {
                count++;
                least = v;
            }
        }
        slope.exchange(A_SPEED, r, was);
        return which == 0 ? count : least;
    }

    public int nails(int r, int sheet, int lane, int i, int n) {
        int refused = readSeen(isRider(r), sheet, lane, i, n, true);
        return refused != 0 ? refused : setSeenWith(A_NAILS, r, MOST_NAILS, n);
    }

    public int slicks(int p, int sheet, int lane, int i, int n) {
        int refused = readSeen(isPace(p), sheet, lane, i, n, true);
        return refused != 0 ? refused : setSeenWith(A_SLICK, p, MOST_SLICK, n);
    }

    public int kinds(int r, int sheet, int lane, int i, int n) {
        int refused = readSeen(isRider(r), sheet, lane, i, n, true);
        return refused != 0 ? refused : setSeenWith(A_KIND, r, LAD, n);
    }

    public long odds(int r, int sheet, int lane, int i, int n, int which) {
        if (!isRider(r)) {
            fault = 0;
            return LOST;
        }
        boolean told = isIn(n, 0, MOST_ODDS_STEPS) && isIn(which, 0, 1);
        if (readSteps(sheet, lane, i, n, told) != 0) {
            return LOST;
        }
        climbs[0].begin();
        int upper = weathersUp(climbs, steps, r, 0, n);
        // The lower number is 2 to the n, so that twos are all that both can have in common.
        int shared = Math.min(n, Integer.numberOfTrailingZeros(upper));
        return which == 0 ? upper >> shared : (1 << n) >> shared;
    }

    // ---- 5 sheets, parts

    public int sheet(int k, int lane, int n) {
        fault = 0;
        if (!isSheet(k)) {
            return UNKNOWN;
        }
        if (!isLane(lane) || n > MOST_CELLS) {
            return OUTSIDE;
        }
        if (n < 0) {
            return meet(SIZE);
        }
        sheets[k].renew(lane, n);
        return 1;
    }

    public int lose(int k) {
        if (!isSheet(k)) {
            return UNKNOWN;
        }
        int had = sheets[k].isNothing() ? 0 : 1;
        sheets[k].renew(Row.NO_LANE, 0);
        return had;
    }

    public int put(int k, int i, int v) {
        fault = 0;
        if (!isSheet(k)) {
            return UNKNOWN;
        }
        Row taken = sheets[k];
        int met = faultOfCells(taken, taken.lane, i, 1);
        if (met != 0) {
            return meet(met);
        }
        taken.lay(i, v);
        return 1;
    }

    public long cell(int k, int i, int lane) {
        fault = 0;
        if (!isSheet(k) || !isLane(lane)) {
            return LOST;
        }
        int met = faultOfCells(sheets[k], lane, i, 1);
        if (met != 0) {
            meet(met);
            return LOST;
        }
        return sheets[k].cells[i];
    }

    public int copy(int k, int i, int other, int j, int n) {
        fault = 0;
        if (!isSheet(k) || !isSheet(other)) {
            return UNKNOWN;
        }
        Row from = sheets[k];
        Row to = sheets[other];
        if (from.isNothing() || to.isNothing()) {
            return meet(NULL);
        }
        if (from.lane != to.lane) {
            return meet(CAST);
        }
        if (!from.holds(i, n) || !to.holds(j, n)) {
            return meet(INDEX);
        }
        System.arraycopy(from.cells, i, to.cells, j, n);
        return n;
    }

    public int tell(int r) {
        if (!isRider(r)) {
            return UNKNOWN;
        }
        if (slope.kind[r] == LAD) {
            return tellAsLad(r);
        }
        return slope.kind[r] == NIGHT ? tellAsNight(r) : tellAsRider(r);
    }

    public int cheer(int r) {
        if (!isRider(r)) {
            return UNKNOWN;
        }
        if (slope.kind[r] == LAD) {
            leave(5);
            return 80;
        }
        leave(4);
        return r;
    }

    public int as(int r, int kind) {
        fault = 0;
        if (!isRider(r)) {
            return UNKNOWN;
        }
        if (!isIn(kind, RIDER, LAD)) {
            return OUTSIDE;
        }
        // Each kind is one of all kinds ahead of it, too.
        return slope.kind[r] >= kind ? 1 : meet(CAST);
    }

    public int trace() {
        return trace;
    }

    public int fault() {
        return fault;
    }

    public int many(int what) {
        if (!isIn(what, 0, 2)) {
            return OUTSIDE;
        }
        if (what == 0) {
            return slope.riders;
        }
        return what == 1 ? slope.paces : readings.count;
    }

    // ---- what a call is looked at by

    private static boolean isIn(int v, int least, int most) {
        return v >= least && v <= most;
    }

    private static boolean isSheet(int k) {
        return isIn(k, 0, SHEETS - 1);
    }

    private static boolean isLane(int lane) {
        return isIn(lane, 0, LANES - 1);
    }

    private boolean isRider(int r) {
        return isIn(r, 0, slope.riders - 1);
    }

    private boolean isPace(int p) {
        return isIn(p, 0, slope.paces - 1);
    }

    private int meet(int number) {
        fault = number;
        return FAULT_BASE - number;
    }

    private static int faultOfCells(Row taken, int lane, int i, int n) {
        if (taken.isNothing()) {
            return NULL;
        }
        if (taken.lane != lane) {
            return CAST;
        }
        if (n < 0) {
            return SIZE;
        }
        return taken.holds(i, n) ? 0 : INDEX;
    }

    // ---- days

    /** Answers 0, or what the call is to answer instead. */
    private int readSteps(int sheet, int lane, int i, int n, boolean told) {
        fault = 0;
        if (!isSheet(sheet)) {
            return UNKNOWN;
        }
        if (!isLane(lane) || !told) {
            return OUTSIDE;
        }
        int met = faultOfCells(sheets[sheet], lane, i, n);
        if (met != 0) {
            return meet(met);
        }
        if (slope.paces == 0) {
            return STATE;
        }
        for (int s = 0; s < n && s < MOST_STEPS; s++) {
            int step = sheets[sheet].cells[i + s];
            if (step != RAIN && !isRider(step)) {
                return UNKNOWN;
            }
            steps[s] = step;
        }
        return 0;
    }

    /** Leaves climbs[0] behind the days, where none of their steps is wrong. */
    private int firstWrong(int n) {
        Climb climb = climbs[0];
        climb.begin();
        for (int s = 0; s < n && s < MOST_STEPS; s++) {
            if (steps[s] == RAIN) {
                climb.polish();
            } else if (climb.isUp(steps[s])) {
                return s;
            } else {
                climb.attempt(steps[s]);
            }
        }
        return NONE;
    }

    private int firstUp(int n) {
        Climb climb = climbs[0];
        climb.begin();
        for (int s = 0; s < n && s < MOST_STEPS; s++) {
            climb.goOn(steps[s]);
            if (climb.up != 0) {
                return s;
            }
        }
        return NONE;
    }

    // ---- the fewest, turns, worth

    /** Leaves the steps in row, as the search for the length comes by them. */
    private int fewestTries(int r) {
        climbs[0].begin();
        for (int length = 1; length <= MOST_TRIES; length++) {
            if (findRow(climbs, row, r, 0, length)) {
                return length;
            }
        }
        return NONE;
    }

    private static boolean findRow(Climb[] climbs, int[] row, int r, int depth, int length) {
        if (depth >= length || depth >= row.length || depth + 1 >= climbs.length) {
            return false;
        }
        Climb now = climbs[depth];
        Climb next = climbs[depth + 1];
        // Nobody comes up by another's try: the last one can only be his own.
        boolean last = depth == length - 1;
        int first = last ? r : 0;
        int end = last ? r + 1 : now.slope.riders;
        for (int who = first; who < end; who++) {
            if (!now.isUp(who)) {
                next.become(now);
                next.attempt(who);
                row[depth] = who;
                if (last ? next.isUp(r) : findRow(climbs, row, r, depth + 1, length)) {
                    return true;
                }
            }
        }
        return false;
    }

    private static int bestPlay(Climb[] climbs, int r, int other, int turn, int turns) {
        if (turn >= turns || turn + 1 >= climbs.length) {
            return NOBODY_WINS;
        }
        boolean isFirst = turn % 2 == 0;
        int mover = isFirst ? r : other;
        int win = isFirst ? FIRST_WINS : OTHER_WINS;
        Climb next = climbs[turn + 1];
        next.become(climbs[turn]);
        next.attempt(mover);
        int byTry = next.isUp(mover) ? win : bestPlay(climbs, r, other, turn + 1, turns);
        if (byTry == win) {
            return win;
        }
        next.become(climbs[turn]);
        int byWait = bestPlay(climbs, r, other, turn + 1, turns);
        return isFirst ? Math.max(byTry, byWait) : Math.min(byTry, byWait);
    }

    private int heightsOfOthers(int r, boolean hisTry) {
        Climb climb = climbs[0];
        climb.begin();
        int sum = 0;
        for (int who = 0; who < slope.riders; who++) {
            if (who != r || hisTry) {
                climb.attempt(who);
            }
            if (who != r) {
                sum += climb.heightOf(who);
            }
        }
        return sum;
    }

    // ---- what was seen

    private int readSeen(boolean known, int sheet, int lane, int i, int n, boolean told) {
        if (!known) {
            fault = 0;
            return UNKNOWN;
        }
        return readSteps(sheet, lane, i, n, told && isIn(n, 0, MOST_STEPS));
    }

    /** Leaves v in its place: who calls puts back what it was, once for all that it asks. */
    private boolean isSeenWith(int what, int number, int v, int n) {
        slope.exchange(what, number, v);
        return firstWrong(n) == NONE && readings.areSo(climbs[0]);
    }

    private int setSeenWith(int what, int number, int most, int n) {
        int was = slope.exchange(what, number, 0);
        int set = 0;
        for (int v = 0; v <= most; v++) {
            if (isSeenWith(what, number, v, n)) {
                set |= 1 << v;
            }
        }
        slope.exchange(what, number, was);
        return set;
    }

    /** Of the weathers of the steps that are left: by how many he is up behind them. */
    private static int weathersUp(Climb[] climbs, int[] steps, int r, int depth, int n) {
        Climb now = climbs[depth];
        if (now.isUp(r)) {
            // He stays up, so that no step that is left need be looked at.
            return 1 << (n - depth);
        }
        if (depth >= n || depth >= steps.length || depth + 1 >= climbs.length) {
            return 0;
        }
        Climb next = climbs[depth + 1];
        next.become(now);
        next.goOn(steps[depth]);
        int dry = weathersUp(climbs, steps, r, depth + 1, n);
        next.become(now);
        next.polish();
        next.goOn(steps[depth]);
        return dry + weathersUp(climbs, steps, r, depth + 1, n);
    }

    // ---- telling

    private void leave(int number) {
        trace = 31 * trace + number;
    }

    private int tellAsRider(int r) {
        leave(1);
        return slope.nails[r];
    }

    private int tellAsNight(int r) {
        leave(2);
        return tellAsRider(r) + 100;
    }

    private int tellAsLad(int r) {
        leave(3);
        int asNight = tellAsNight(r);
        return asNight + tellAsRider(r);
    }

    /** What a sheet has. Its cells are made once, at their most, and used by each new row. */
    private static final class Row {
        static final int NO_LANE = -1;

        int lane = NO_LANE;
        int length;
        final int[] cells = new int[MOST_CELLS];

        boolean isNothing() {
            return lane == NO_LANE;
        }

        void renew(int newLane, int n) {
            lane = newLane;
            length = n;
            Arrays.fill(cells, 0);
        }

        boolean holds(int i, int n) {
            return i >= 0 && i <= length && n >= 0 && n <= length - i;
        }

        void lay(int i, int v) {
            if (lane == BYTES) {
                cells[i] = (byte) v;
            } else if (lane == SHORTS) {
                cells[i] = (short) v;
            } else {
                cells[i] = v;
            }
        }
    }

    /** The hill and the riders as told; without a hill there are none of either. */
    private static final class Slope {
        int paces;
        int riders;
        final int[] slick = new int[MOST_PACES];
        final int[] laid = new int[MOST_PACES];
        final int[] kind = new int[MOST_RIDERS];
        final int[] speed = new int[MOST_RIDERS];
        final int[] nails = new int[MOST_RIDERS];

        int toll(int r, int p, int scratches) {
            int asRider = slick[p] - scratches - nails[r];
            return Math.max(0, kind[r] == NIGHT ? asRider - 1 : asRider);
        }

        int marks(int r) {
            return kind[r] == LAD ? 2 : 1;
        }

        boolean isUpWithSand(int r, int set) {
            int left = speed[r];
            for (int p = 0; p < paces; p++) {
                if ((set >> p & 1) == 0) {
                    left -= toll(r, p, laid[p]);
                }
            }
            return left >= 0;
        }

        int exchange(int what, int number, int v) {
            int[] all = what == A_SPEED ? speed
                    : what == A_NAILS ? nails
                    : what == A_SLICK ? slick : kind;
            int was = all[number];
            all[number] = v;
            return was;
        }
    }

    private static final class Climb {
        final Slope slope;
        final int[] scratches = new int[MOST_PACES];
        final int[] tries = new int[MOST_RIDERS];
        final int[] heights = new int[MOST_RIDERS];
        int up;

        Climb(Slope slope) {
            this.slope = slope;
        }

        void begin() {
            System.arraycopy(slope.laid, 0, scratches, 0, MOST_PACES);
            Arrays.fill(tries, 0);
            Arrays.fill(heights, NONE);
            up = 0;
        }

        void become(Climb other) {
            System.arraycopy(other.scratches, 0, scratches, 0, MOST_PACES);
            System.arraycopy(other.tries, 0, tries, 0, MOST_RIDERS);
            System.arraycopy(other.heights, 0, heights, 0, MOST_RIDERS);
            up = other.up;
        }

        boolean isUp(int r) {
            return (up >> r & 1) == 1;
        }

        /** Lets a try of one who is up be of no matter, as odds() asks. */
        void goOn(int step) {
            if (step == RAIN) {
                polish();
            } else if (!isUp(step)) {
                attempt(step);
            }
        }

        void polish() {
            for (int p = 0; p < slope.paces; p++) {
                scratches[p] = Math.max(0, scratches[p] - 1);
            }
        }

        void attempt(int r) {
            int left = Math.max(0, slope.speed[r] - tries[r]);
            int height = 0;
            for (int p = 0; p < slope.paces; p++) {
                int toll = slope.toll(r, p, scratches[p]);
                if (toll > left) {
                    break;
                }
                left -= toll;
                height++;
            }
            tries[r]++;
            heights[r] = height;
            if (height == slope.paces) {
                up |= 1 << r;
            } else {
                slideBack(height, slope.marks(r));
            }
        }

        private void slideBack(int height, int marks) {
            for (int p = 0; p < height; p++) {
                scratches[p] = Math.min(MOST_SCRATCHES, scratches[p] + marks);
            }
        }

        int scratchesOf(int p) {
            return isIn(p, 0, slope.paces - 1) ? scratches[p] : NONE;
        }

        int heightOf(int r) {
            return isIn(r, 0, slope.riders - 1) ? heights[r] : NONE;
        }
    }

    /** Those from count on are none: to take some back needs no more than a lower count. */
    private static final class Readings {
        static final int MOST = 8;

        int count;
        final int[] riders = new int[MOST];
        final int[] heights = new int[MOST];

        boolean isFull() {
            return count >= MOST;
        }

        int add(int r, int height) {
            riders[count] = r;
            heights[count] = height;
            count++;
            return count - 1;
        }

        /** One who did not try has the height NONE, which no reading has. */
        boolean areSo(Climb climb) {
            for (int k = 0; k < count; k++) {
                if (climb.heightOf(riders[k]) != heights[k]) {
                    return false;
                }
            }
            return true;
        }
    }

    private static final class Text {
        private static final int HEAD = 2, RIDER_CODES = 5;

        static int firstFault(Row text, int i, int n) {
            int paces = 0;
            for (int place = 0; place < n; place++) {
                int code = text.cells[i + place];
                if (!goesOn(place, code, paces)) {
                    return place;
                }
                if (place == 1) {
                    paces = code - '0';
                }
            }
            int codes = n - HEAD - paces;
            return codes > 0 && codes % RIDER_CODES == 0 ? NONE : n;
        }

        private static boolean goesOn(int place, int code, int paces) {
            if (place == 0) {
                return code == 'a';
            }
            if (place == 1) {
                return isIn(code, '2', '8');
            }
            int behind = place - HEAD - paces;
            if (behind < 0) {
                return isIn(code, '0', '9');
            }
            if (behind >= MOST_RIDERS * RIDER_CODES) {
                return false;
            }
            switch (behind % RIDER_CODES) {
                case 0:
                    return code == ',';
                case 1:
                    return code == 'r' || code == 'n' || code == 'l';
                default:
                    return isIn(code, '0', '9');
            }
        }

        /** Takes a text without a fault alone: a refused one must change nothing. */
        static void build(Slope slope, Row text, int i, int n) {
            slope.paces = digit(text, i + 1);
            slope.riders = (n - HEAD - slope.paces) / RIDER_CODES;
            for (int p = 0; p < slope.paces; p++) {
                slope.slick[p] = digit(text, i + HEAD + p);
                slope.laid[p] = 0;
            }
            for (int r = 0; r < slope.riders; r++) {
                int at = i + HEAD + slope.paces + r * RIDER_CODES;
                slope.kind[r] = kindOf(text.cells[at + 1]);
                slope.speed[r] = 10 * digit(text, at + 2) + digit(text, at + 3);
                slope.nails[r] = digit(text, at + 4);
            }
        }

        private static int digit(Row text, int at) {
            return text.cells[at] - '0';
        }

        private static int kindOf(int letter) {
            if (letter == 'l') {
                return LAD;
            }
            return letter == 'n' ? NIGHT : RIDER;
        }
    }
}
