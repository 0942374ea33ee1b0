import java.util.Arrays;

/** A common in a mist that shows each one only what he does not care for: ../shared/DOC.md has its promises. */
public final class CarelessMist {
    private static final int BEYOND = -1000001;
    private static final int FULL = BEYOND - 1;
    private static final int OTHER_KIND = BEYOND - 2;
    private static final int NONE = BEYOND - 3;
    private static final int STATE = BEYOND - 4;
    private static final int MISSING = BEYOND - 5;
    private static final int SIZE = BEYOND - 6;
    private static final int FINDINGS = 7;

    private static final int CELLS = 16;
    private static final int MOST_THINGS = 8;
    private static final int MOST_WALKERS = 6;
    private static final int TURNS = 6;
    private static final int SPOTS = 10;
    private static final int SHEETS = 4;
    private static final int MOST_NUMBERS = 40;
    private static final int MOST_BYTES = 120;
    private static final int MOST_COUNTED = 9999;
    private static final int LAST_DAY = 99999;
    private static final int FARTHEST_DAY = 200;
    private static final int ALL_SETS = 255;

    // The rows of things and walkers stand in the order of what of() and ofWalker() ask for.
    private static final int KIND = 0;
    private static final int PLACE = 1;
    private static final int MET = 2;
    private static final int THING_FIELDS = 3;
    private static final int CELL = 0;
    private static final int AIM = 1;
    private static final int PACE = 2;
    private static final int CARES = 3;
    private static final int GOT = 4;
    private static final int STRAYED = 5;
    private static final int WALKER_FIELDS = 6;
    private static final int[] MOST_OF_THING = {6, 15, 9999};
    private static final int[] LEAST_OF_WALKER = {0, 0, 1, 0, 0, 0};
    private static final int[] MOST_OF_WALKER = {15, 7, 5, 255, 9999, 9999};

    private final Common common;
    private final Common kept;
    // What would be is tried here, so that asking changes nothing and makes no new rows.
    private final Common trial;
    private boolean isKept;
    private final Tape tape;
    private final Sheet[] sheets;
    private final int[] findings;

    public CarelessMist() {
        common = new Common();
        kept = new Common();
        trial = new Common();
        isKept = false;
        tape = new Tape();
        sheets = new Sheet[SHEETS];
        for (int s = 0; s < SHEETS; s++) {
            sheets[s] = new Sheet();
        }
        findings = new int[FINDINGS];
    }

    // ---- common

    public int turn(int i, int walker, int thing) {
        if (!within(i, 0, TURNS - 1) || !within(walker, 0, MOST_WALKERS - 1)
                || !within(thing, 0, MOST_THINGS - 1)) {
            return told(BEYOND);
        }
        int was = common.list[i];
        common.list[i] = 10 * walker + thing;
        return was;
    }

    public int listed(int i) {
        return within(i, 0, TURNS - 1) ? common.list[i] : told(BEYOND);
    }

    public int thing(int kind, int cell) {
        if (!within(kind, 0, MOST_OF_THING[KIND]) || !within(cell, 0, CELLS - 1)) {
            return told(BEYOND);
        }
        if (common.thingCount >= MOST_THINGS) {
            return told(FULL);
        }
        return common.addThing(kind, cell);
    }

    public int walker(int cell, int aim) {
        if (!within(cell, 0, CELLS - 1) || !within(aim, 0, MOST_THINGS - 1)) {
            return told(BEYOND);
        }
        if (common.walkerCount >= MOST_WALKERS) {
            return told(FULL);
        }
        return common.addWalker(cell, aim);
    }

    public int of(int thing, int what) {
        if (!common.hasThing(thing) || !within(what, 0, 5)) {
            return told(BEYOND);
        }
        int[] row = common.things[thing];
        switch (what) {
            case 3:
                return Kinds.clear(row[KIND]);
            case 4:
                return Kinds.dim(row[KIND], row[MET], common.day);
            case 5:
                return Kinds.moves(row[KIND], common.day);
            default:
                return row[what];
        }
    }

    public int change(int thing, int what, int v) {
        if (!common.hasThing(thing) || !within(what, 0, THING_FIELDS - 1)
                || !within(v, 0, MOST_OF_THING[what])) {
            return told(BEYOND);
        }
        int was = common.things[thing][what];
        common.things[thing][what] = v;
        return was;
    }

    public int ofWalker(int walker, int what) {
        if (!common.hasWalker(walker) || !within(what, 0, WALKER_FIELDS - 1)) {
            return told(BEYOND);
        }
        return common.walkers[walker][what];
    }

    public int lead(int walker, int what, int v) {
        if (!common.hasWalker(walker) || !within(what, 0, WALKER_FIELDS - 1)
                || !within(v, LEAST_OF_WALKER[what], MOST_OF_WALKER[what])) {
            return told(BEYOND);
        }
        int was = common.walkers[walker][what];
        common.walkers[walker][what] = v;
        return was;
    }

    public int sees(int walker) {
        if (!common.hasWalker(walker)) {
            return told(BEYOND);
        }
        int set = 0;
        for (int t = 0; t < common.thingCount; t++) {
            if (common.canSee(walker, t)) {
                set |= 1 << t;
            }
        }
        return set;
    }

    public int seenBy(int thing) {
        return common.hasThing(thing) ? common.seersOf(thing) : told(BEYOND);
    }

    // ---- days

    public int go(int n) {
        if (!within(n, 1, 60)) {
            return told(BEYOND);
        }
        if (common.day > LAST_DAY - n) {
            return told(STATE);
        }
        for (int d = 0; d < n; d++) {
            common.passDay();
        }
        return common.sumOf(GOT);
    }

    public int now(int what) {
        switch (what) {
            case 0:
                return common.day;
            case 1:
                return common.sumOf(GOT);
            case 2:
                return common.sumOf(STRAYED);
            case 3:
                return common.guidedWalkers();
            case 4:
                return common.thingsCaredFor();
            case 5:
                return common.cellsWithWalkers();
            case 6:
                return common.cellsWithThings();
            case 7:
                return common.unseenThings();
            default:
                return told(BEYOND);
        }
    }

    // ---- what will be

    public int ahead(int thing, int what, int n) {
        if (!common.hasThing(thing) || !within(what, PLACE, MET) || !within(n, 0, 100)) {
            return told(BEYOND);
        }
        trial.become(common);
        tryDays(n);
        return trial.things[thing][what];
    }

    public int later(int walker, int what, int n) {
        boolean asked = what == CELL || within(what, CARES, STRAYED);
        if (!common.hasWalker(walker) || !asked || !within(n, 0, 100)) {
            return told(BEYOND);
        }
        trial.become(common);
        tryDays(n);
        return trial.walkers[walker][what];
    }

    public int arrives(int walker, int v) {
        if (!common.hasWalker(walker) || !within(v, 0, MOST_COUNTED)) {
            return told(BEYOND);
        }
        trial.become(common);
        for (int d = 0; d <= FARTHEST_DAY; d++) {
            if (trial.walkers[walker][GOT] >= v) {
                return d;
            }
            trial.passDay();
        }
        return told(NONE);
    }

    public int spies(int walker, int thing) {
        if (!common.hasWalker(walker) || !common.hasThing(thing)) {
            return told(BEYOND);
        }
        trial.become(common);
        for (int d = 0; d <= FARTHEST_DAY; d++) {
            if (trial.canSee(walker, thing)) {
                return d;
            }
            trial.passDay();
        }
        return told(NONE);
    }

    public int meet(int a, int b) {
        if (!common.hasWalker(a) || !common.hasWalker(b) || a == b) {
            return told(BEYOND);
        }
        trial.become(common);
        for (int d = 0; d <= FARTHEST_DAY; d++) {
            if (trial.walkers[a][CELL] == trial.walkers[b][CELL]) {
                return d;
            }
            trial.passDay();
        }
        return told(NONE);
    }

    // ---- how to get there

    public int startFor(int walker, int n) {
        if (!common.hasWalker(walker) || !within(n, 0, 40)) {
            return told(BEYOND);
        }
        return bestForGot(walker, CELL, n);
    }

    public int aimFor(int walker, int n) {
        if (!common.hasWalker(walker) || !within(n, 0, 40)) {
            return told(BEYOND);
        }
        return bestForGot(walker, AIM, n);
    }

    public int kindFor(int thing, int n) {
        if (!common.hasThing(thing) || !within(n, 0, 40)) {
            return told(BEYOND);
        }
        int best = 0;
        int most = -1;
        for (int kind = 0; kind <= MOST_OF_THING[KIND]; kind++) {
            trial.become(common);
            trial.things[thing][KIND] = kind;
            tryDays(n);
            int met = trial.things[thing][MET];
            if (met > most) {
                best = kind;
                most = met;
            }
        }
        return best;
    }

    public int paceFor(int walker, int n) {
        if (!common.hasWalker(walker) || !within(n, 0, 40)) {
            return told(BEYOND);
        }
        int before = common.walkers[walker][GOT];
        for (int pace = LEAST_OF_WALKER[PACE]; pace <= MOST_OF_WALKER[PACE]; pace++) {
            if (gotWith(walker, PACE, pace, n) > before) {
                return pace;
            }
        }
        return told(NONE);
    }

    public int giveUp(int walker, int n) {
        if (!common.hasWalker(walker) || !within(n, 0, 20)) {
            return told(BEYOND);
        }
        int before = common.walkers[walker][GOT];
        int cares = common.walkers[walker][CARES];
        int best = -1;
        for (int set = 0; set <= ALL_SETS; set++) {
            // What isn't cared for can't be given up: a set with it is never one of the fewest.
            boolean cared = (set & ~cares) == 0;
            boolean fewer = best < 0 || Integer.bitCount(set) < Integer.bitCount(best);
            if (cared && fewer && gotWith(walker, CARES, cares & ~set, n) > before) {
                best = set;
            }
        }
        return best < 0 ? told(NONE) : best;
    }

    // ---- told ways

    public int fits(int s, int walker) {
        int lack = lackOf(s);
        if (lack != 0) {
            return told(lack);
        }
        if (!common.hasWalker(walker)) {
            return told(BEYOND);
        }
        int set = 0;
        for (int cell = 0; cell < CELLS; cell++) {
            trial.become(common);
            trial.walkers[walker][CELL] = cell;
            if (goesAsTold(sheets[s], trial.walkers[walker], CELL)) {
                set |= 1 << cell;
            }
        }
        return set;
    }

    public int kinds(int s, int thing) {
        int lack = lackOf(s);
        if (lack != 0) {
            return told(lack);
        }
        if (!common.hasThing(thing)) {
            return told(BEYOND);
        }
        int set = 0;
        for (int kind = 0; kind <= MOST_OF_THING[KIND]; kind++) {
            trial.become(common);
            trial.things[thing][KIND] = kind;
            if (goesAsTold(sheets[s], trial.things[thing], PLACE)) {
                set |= 1 << kind;
            }
        }
        return set;
    }

    // ---- mornings

    public int morning(int n) {
        if (!within(n, 1, 20)) {
            return told(BEYOND);
        }
        if (common.day > LAST_DAY - n) {
            return told(STATE);
        }
        for (int d = 0; d < n; d++) {
            int walker = common.draw() % MOST_WALKERS;
            int thing = common.draw() % MOST_THINGS;
            common.list[common.day % TURNS] = 10 * walker + thing;
            common.passDay();
        }
        return common.sumOf(GOT);
    }

    public long odds(int walker, int thing, int n, int what) {
        if (!common.hasWalker(walker) || !common.hasThing(thing) || !within(n, 0, 15) || !within(what, 0, 1)) {
            return told(BEYOND);
        }
        trial.become(common);
        int seeing = 0;
        for (int cell = 0; cell < CELLS; cell++) {
            trial.walkers[walker][CELL] = cell;
            seeing += trial.canSee(walker, thing) ? 1 : 0;
        }
        int all = CELLS;
        while (all > 1 && seeing % 2 == 0) {
            seeing /= 2;
            all /= 2;
        }
        return power(what == 0 ? seeing : all, n);
    }

    public int seed(int v) {
        int was = common.z;
        common.z = v;
        return was;
    }

    // ---- texts

    public int feed(int bytes, int n) {
        if (!within(n, 1, 4)) {
            return told(BEYOND);
        }
        if (tape.length > MOST_BYTES - n) {
            return told(FULL);
        }
        tape.append(bytes, n);
        return tape.length;
    }

    public int wipe() {
        int had = tape.length;
        tape.length = 0;
        return had;
    }

    public int text() {
        trial.become(common);
        int items = tape.readInto(trial);
        tape.length = 0;
        if (items > 0) {
            common.become(trial);
        }
        return items;
    }

    // ---- spots, sheets

    public int hold(int spot, int thing) {
        if (!within(spot, 0, SPOTS - 1) || thing != -1 && !common.hasThing(thing)) {
            return told(BEYOND);
        }
        common.spots[spot] = thing;
        return 1;
    }

    public int as(int spot, int kind) {
        if (!within(spot, 0, SPOTS - 1) || !within(kind, 0, MOST_OF_THING[KIND])) {
            return told(BEYOND);
        }
        int thing = common.spots[spot];
        if (!common.hasThing(thing)) {
            return told(MISSING);
        }
        return Kinds.isUnder(common.things[thing][KIND], kind) ? thing : told(OTHER_KIND);
    }

    public int sheet(int s, int bits, int n) {
        boolean known = bits == 0 || bits == 8 || bits == 16 || bits == 32;
        if (!within(s, 0, SHEETS - 1) || !known) {
            return told(BEYOND);
        }
        if (n < 0) {
            return told(SIZE);
        }
        if (n > MOST_NUMBERS) {
            return told(BEYOND);
        }
        sheets[s].begin(bits, bits == 0 ? 0 : n);
        return sheets[s].size;
    }

    public int write(int s, int i, int v) {
        int lack = lackOf(s);
        if (lack != 0) {
            return told(lack);
        }
        if (!within(i, 0, sheets[s].size - 1)) {
            return told(BEYOND);
        }
        sheets[s].put(i, v);
        return 1;
    }

    public int copy(int s, int from, int t, int to, int n) {
        if (!within(s, 0, SHEETS - 1) || !within(t, 0, SHEETS - 1)) {
            return told(BEYOND);
        }
        if (sheets[s].bits == 0 || sheets[t].bits == 0) {
            return told(MISSING);
        }
        if (sheets[s].bits != sheets[t].bits) {
            return told(OTHER_KIND);
        }
        if (!sheets[s].has(from, n) || !sheets[t].has(to, n)) {
            return told(BEYOND);
        }
        System.arraycopy(sheets[s].numbers, from, sheets[t].numbers, to, n);
        return n;
    }

    public int load(int s) {
        int lack = lackOf(s);
        if (lack != 0) {
            return told(lack);
        }
        Sheet sheet = sheets[s];
        int came = 0;
        while (came < sheet.size && common.hasWalker(came) && within(sheet.numbers[came], 0, ALL_SETS)) {
            common.walkers[came][CARES] = sheet.numbers[came];
            came++;
        }
        return came;
    }

    public int judge(int s) {
        int lack = lackOf(s);
        if (lack != 0) {
            return told(lack);
        }
        Sheet sheet = sheets[s];
        for (int i = 0; i < sheet.size; i++) {
            if (!common.hasWalker(i) || common.walkers[i][CELL] != sheet.numbers[i]) {
                return 1 + i;
            }
        }
        return 0;
    }

    // ---- images

    public int image() {
        kept.become(common);
        isKept = true;
        return 1;
    }

    public int undo() {
        if (!isKept) {
            return told(NONE);
        }
        common.become(kept);
        return common.day;
    }

    public int tear() {
        int had = isKept ? 1 : 0;
        isKept = false;
        return had;
    }

    public int count(int what) {
        switch (what) {
            case 0:
                return common.day;
            case 1:
                return common.thingCount;
            case 2:
                return common.walkerCount;
            case 3:
                return common.sumOf(GOT);
            case 4:
                return common.sumOf(STRAYED);
            case 5:
                return tape.length;
            case 6:
                return common.z;
            case 7:
                return common.heldSpots();
            default:
                return told(BEYOND);
        }
    }

    public int status(int which) {
        if (!within(which, -1, FINDINGS - 1)) {
            return told(BEYOND);
        }
        if (which >= 0) {
            return findings[which];
        }
        int all = 0;
        for (int f = 0; f < FINDINGS; f++) {
            all += findings[f];
        }
        return all;
    }

    // ---- helpers

    private static boolean within(int v, int least, int most) {
        return least <= v && v <= most;
    }

    private static long power(long base, int n) {
        long product = 1;
        for (int i = 0; i < n; i++) {
            product *= base;
        }
        return product;
    }

    /** Counts a finding on its way out. */
    private int told(int finding) {
        int which = BEYOND - finding;
        if (within(which, 0, FINDINGS - 1)) {
            findings[which]++;
        }
        return finding;
    }

    /** The finding that stands against using a sheet, or 0. */
    private int lackOf(int s) {
        if (!within(s, 0, SHEETS - 1)) {
            return BEYOND;
        }
        return sheets[s].bits == 0 ? MISSING : 0;
    }

    private void tryDays(int n) {
        for (int d = 0; d < n; d++) {
            trial.passDay();
        }
    }

    private int gotWith(int walker, int what, int v, int n) {
        trial.become(common);
        trial.walkers[walker][what] = v;
        for (int d = 0; d < n; d++) {
            trial.passDay();
        }
        return trial.walkers[walker][GOT];
    }

    private int bestForGot(int walker, int what, int n) {
        int best = 0;
        int most = -1;
        for (int v = 0; v <= MOST_OF_WALKER[what]; v++) {
            int got = gotWith(walker, what, v, n);
            if (got > most) {
                best = v;
                most = got;
            }
        }
        return best;
    }

    /** Lets days go by in the trial and compares one place, in a row of it, with what a sheet tells. */
    private boolean goesAsTold(Sheet sheet, int[] row, int place) {
        for (int i = 0; i < sheet.size; i++) {
            trial.passDay();
            if (sheet.numbers[i] != -1 && sheet.numbers[i] != row[place]) {
                return false;
            }
        }
        return true;
    }

    /** What the kinds of things have in common and what each has for itself. */
    private static final class Kinds {
        private static final int STEEPLE = 1;
        private static final int COW = 2;
        private static final int CHILD = 3;
        private static final int LOVER = 4;
        private static final int BILL = 5;
        private static final int INN = 6;
        private static final int[] UNDER = {-1, 0, 0, 2, 3, 0, 1};

        private static final int THING_CLEAR = 4;
        private static final int STEEPLE_CLEAR = 15;
        private static final int COW_CLEAR = THING_CLEAR + 2;
        private static final int CHILD_CLEAR = COW_CLEAR / 2;

        private static final int THING_DIM = 0;
        private static final int STEEPLE_DIM = THING_DIM + 1;
        private static final int CHILD_DIM = 0;

        static boolean isUnder(int kind, int above) {
            int k = kind;
            for (int steps = 0; steps < UNDER.length && k >= 0 && k < UNDER.length; steps++) {
                if (k == above) {
                    return true;
                }
                k = UNDER[k];
            }
            return false;
        }

        static int clear(int kind) {
            switch (kind) {
                case STEEPLE:
                    return STEEPLE_CLEAR;
                case COW:
                    return COW_CLEAR;
                case CHILD:
                    return CHILD_CLEAR;
                case LOVER:
                    return CHILD_CLEAR - 1;
                case BILL:
                    return 0;
                case INN:
                    return STEEPLE_CLEAR / 2;
                default:
                    return THING_CLEAR;
            }
        }

        static int dim(int kind, int met, int day) {
            switch (kind) {
                case STEEPLE:
                    return STEEPLE_DIM;
                case COW:
                    return THING_DIM + 1;
                case CHILD:
                    return CHILD_DIM;
                case LOVER:
                    return met >= 3 ? 2 : CHILD_DIM;
                case BILL:
                    return 5;
                case INN:
                    return STEEPLE_DIM + day % 2;
                default:
                    return THING_DIM;
            }
        }

        static int moves(int kind, int day) {
            int cow = day % 3 == 0 ? 1 : 0;
            int child = cow + 1;
            switch (kind) {
                case COW:
                    return cow;
                case CHILD:
                    return child;
                case LOVER:
                    return 2 * child;
                default:
                    return 0;
            }
        }

        static boolean touches(int kind, boolean cared) {
            switch (kind) {
                case STEEPLE:
                case BILL:
                case INN:
                    return false;
                case CHILD:
                    return true;
                case LOVER:
                    return !cared;
                default:
                    return cared;
            }
        }
    }

    /** All that an image keeps: the list, the things, the walkers, the spots, the day and z. */
    private static final class Common {
        final int[] list = new int[TURNS];
        final int[][] things = new int[MOST_THINGS][THING_FIELDS];
        final int[][] walkers = new int[MOST_WALKERS][WALKER_FIELDS];
        final int[] spots = new int[SPOTS];
        int thingCount = 0;
        int walkerCount = 0;
        int day = 0;
        int z = 1;

        Common() {
            Arrays.fill(spots, -1);
        }

        void become(Common other) {
            System.arraycopy(other.list, 0, list, 0, TURNS);
            for (int t = 0; t < other.thingCount; t++) {
                System.arraycopy(other.things[t], 0, things[t], 0, THING_FIELDS);
            }
            for (int w = 0; w < other.walkerCount; w++) {
                System.arraycopy(other.walkers[w], 0, walkers[w], 0, WALKER_FIELDS);
            }
            System.arraycopy(other.spots, 0, spots, 0, SPOTS);
            thingCount = other.thingCount;
            walkerCount = other.walkerCount;
            day = other.day;
            z = other.z;
        }

        boolean hasThing(int t) {
            return 0 <= t && t < thingCount;
        }

        boolean hasWalker(int w) {
            return 0 <= w && w < walkerCount;
        }

        int addThing(int kind, int cell) {
            int[] row = things[thingCount];
            row[KIND] = kind;
            row[PLACE] = cell;
            row[MET] = 0;
            thingCount++;
            return thingCount - 1;
        }

        int addWalker(int cell, int aim) {
            int[] row = walkers[walkerCount];
            row[CELL] = cell;
            row[AIM] = aim;
            row[PACE] = 2;
            row[CARES] = 0;
            row[GOT] = 0;
            row[STRAYED] = 0;
            walkerCount++;
            return walkerCount - 1;
        }

        int draw() {
            z = z * 1103515245 + 12345;
            return z >>> 8;
        }

        boolean canSee(int w, int t) {
            int[] row = things[t];
            boolean cares = (walkers[w][CARES] >> t & 1) == 1;
            int sight = cares ? Kinds.dim(row[KIND], row[MET], day) : Kinds.clear(row[KIND]);
            return Math.abs(walkers[w][CELL] - row[PLACE]) <= sight;
        }

        /** Whether a walker sees a thing or stands beside one that does. */
        boolean findsWay(int w, int t) {
            for (int other = 0; other < walkerCount; other++) {
                if (walkers[other][CELL] == walkers[w][CELL] && canSee(other, t)) {
                    return true;
                }
            }
            return false;
        }

        void passDay() {
            takeTurn(list[day % TURNS]);
            for (int w = 0; w < walkerCount; w++) {
                int aim = walkers[w][AIM];
                if (hasThing(aim)) {
                    walk(walkers[w], aim, findsWay(w, aim));
                }
            }
            for (int t = 0; t < thingCount; t++) {
                int[] row = things[t];
                row[PLACE] = (row[PLACE] + Kinds.moves(row[KIND], day)) % CELLS;
            }
            day = Math.min(day + 1, LAST_DAY);
        }

        void takeTurn(int turn) {
            int w = turn / 10;
            int t = turn % 10;
            if (hasWalker(w) && hasThing(t)) {
                walkers[w][CARES] ^= 1 << t;
            }
        }

        void walk(int[] row, int t, boolean findsWay) {
            if (findsWay) {
                int way = things[t][PLACE] - row[CELL];
                row[CELL] += Math.max(-row[PACE], Math.min(row[PACE], way));
            } else {
                row[CELL] = (row[CELL] + 1) % CELLS;
                row[STRAYED] = Math.min(row[STRAYED] + 1, MOST_COUNTED);
            }
            if (row[CELL] == things[t][PLACE]) {
                arriveAt(row, things[t], t);
            }
        }

        void arriveAt(int[] walker, int[] thing, int t) {
            walker[GOT] = Math.min(walker[GOT] + 1, MOST_COUNTED);
            thing[MET] = Math.min(thing[MET] + 1, MOST_COUNTED);
            boolean cared = (walker[CARES] >> t & 1) == 1;
            if (Kinds.touches(thing[KIND], cared)) {
                walker[CARES] |= 1 << t;
            } else {
                walker[CARES] &= ~(1 << t);
            }
        }

        int sumOf(int what) {
            int sum = 0;
            for (int w = 0; w < walkerCount; w++) {
                sum += walkers[w][what];
            }
            return sum;
        }

        int seersOf(int t) {
            int set = 0;
            for (int w = 0; w < walkerCount; w++) {
                if (canSee(w, t)) {
                    set |= 1 << w;
                }
            }
            return set;
        }

        int guidedWalkers() {
            int set = 0;
            for (int w = 0; w < walkerCount; w++) {
                int aim = walkers[w][AIM];
                if (hasThing(aim) && findsWay(w, aim)) {
                    set |= 1 << w;
                }
            }
            return set;
        }

        int thingsCaredFor() {
            int set = 0;
            for (int w = 0; w < walkerCount; w++) {
                set |= walkers[w][CARES];
            }
            // Walkers may care for numbers of which there is no thing.
            return set & (1 << thingCount) - 1;
        }

        int cellsWithWalkers() {
            int set = 0;
            for (int w = 0; w < walkerCount; w++) {
                set |= 1 << walkers[w][CELL];
            }
            return set;
        }

        int cellsWithThings() {
            int set = 0;
            for (int t = 0; t < thingCount; t++) {
                set |= 1 << things[t][PLACE];
            }
            return set;
        }

        int unseenThings() {
            int set = 0;
            for (int t = 0; t < thingCount; t++) {
                if (seersOf(t) == 0) {
                    set |= 1 << t;
                }
            }
            return set;
        }

        int heldSpots() {
            int held = 0;
            for (int spot = 0; spot < SPOTS; spot++) {
                if (spots[spot] >= 0) {
                    held++;
                }
            }
            return held;
        }
    }

    /** A row of numbers of so many bits; of 0 bits it is missing. */
    private static final class Sheet {
        final int[] numbers = new int[MOST_NUMBERS];
        int bits = 0;
        int size = 0;

        void begin(int newBits, int newSize) {
            bits = newBits;
            size = newSize;
            Arrays.fill(numbers, 0);
        }

        void put(int i, int v) {
            switch (bits) {
                case 8:
                    numbers[i] = (byte) v;
                    break;
                case 16:
                    numbers[i] = (short) v;
                    break;
                default:
                    numbers[i] = v;
                    break;
            }
        }

        boolean has(int from, int n) {
            return from >= 0 && n >= 0 && n <= size && from <= size - n;
        }
    }

    /** The bytes that were fed, and a reader that goes over them token by token. */
    private static final class Tape {
        private static final int END = 0;
        private static final int WORD = 1;
        private static final int NUMBER = 2;
        private static final int SEMICOLON = 3;
        private static final int NO_TOKEN = 4;
        private static final int TOO_MUCH = 1000;

        final int[] bytes = new int[MOST_BYTES];
        int length = 0;
        private int next = 0;
        private int token = END;
        private int start = 0;
        private int number = 0;

        void append(int newBytes, int n) {
            for (int i = n - 1; i >= 0 && length < MOST_BYTES; i--) {
                bytes[length] = newBytes >>> 8 * i & 255;
                length++;
            }
        }

        /** Tells a common all items: how many, or -1 less the place of the fault (the common is spoilt then). */
        int readInto(Common common) {
            next = 0;
            for (int items = 1; items <= MOST_BYTES; items++) {
                step();
                if (!readItem(common)) {
                    break;
                }
                if (token == END) {
                    return items;
                }
                if (token != SEMICOLON) {
                    break;
                }
            }
            return -1 - start;
        }

        // Each reading method begins at its first token and ends behind its last one, or at the one at fault.

        private boolean readItem(Common common) {
            if (isWord("walker")) {
                return readWalker(common);
            }
            if (isWord("turn")) {
                return readTurn(common);
            }
            int kind = kindOfWord();
            return kind >= 0 && readThing(common, kind);
        }

        private boolean readThing(Common common, int kind) {
            if (common.thingCount >= MOST_THINGS) {
                return false;
            }
            step();
            if (!isNumber(0, CELLS - 1)) {
                return false;
            }
            common.addThing(kind, number);
            step();
            return true;
        }

        private boolean readWalker(Common common) {
            if (common.walkerCount >= MOST_WALKERS) {
                return false;
            }
            step();
            if (!isNumber(0, CELLS - 1)) {
                return false;
            }
            int cell = number;
            step();
            if (!isNumber(0, MOST_THINGS - 1)) {
                return false;
            }
            int[] row = common.walkers[common.addWalker(cell, number)];
            step();
            return readPerhaps("pace", row, PACE) && readPerhaps("cares", row, CARES);
        }

        private boolean readPerhaps(String word, int[] row, int what) {
            if (!isWord(word)) {
                return true;
            }
            step();
            if (!isNumber(LEAST_OF_WALKER[what], MOST_OF_WALKER[what])) {
                return false;
            }
            row[what] = number;
            step();
            return true;
        }

        private boolean readTurn(Common common) {
            step();
            if (!isNumber(0, TURNS - 1)) {
                return false;
            }
            int i = number;
            step();
            if (!isNumber(0, MOST_WALKERS - 1)) {
                return false;
            }
            int walker = number;
            step();
            if (!isNumber(0, MOST_THINGS - 1)) {
                return false;
            }
            common.list[i] = 10 * walker + number;
            step();
            return true;
        }

        private int kindOfWord() {
            if (isWord("thing")) {
                return 0;
            }
            if (isWord("steeple")) {
                return Kinds.STEEPLE;
            }
            if (isWord("cow")) {
                return Kinds.COW;
            }
            if (isWord("child")) {
                return Kinds.CHILD;
            }
            if (isWord("lover")) {
                return Kinds.LOVER;
            }
            if (isWord("bill")) {
                return Kinds.BILL;
            }
            return isWord("inn") ? Kinds.INN : -1;
        }

        private boolean isWord(String word) {
            if (token != WORD || next - start != word.length()) {
                return false;
            }
            for (int i = 0; i < word.length(); i++) {
                if (bytes[start + i] != word.charAt(i)) {
                    return false;
                }
            }
            return true;
        }

        private boolean isNumber(int least, int most) {
            return token == NUMBER && within(number, least, most);
        }

        private void step() {
            while (next < length && bytes[next] == ' ') {
                next++;
            }
            start = next;
            number = 0;
            if (next >= length) {
                token = END;
            } else if (isLetter(bytes[next])) {
                token = WORD;
                while (next < length && isLetter(bytes[next])) {
                    next++;
                }
            } else if (isDigit(bytes[next])) {
                token = NUMBER;
                while (next < length && isDigit(bytes[next])) {
                    number = Math.min(10 * number + bytes[next] - '0', TOO_MUCH);
                    next++;
                }
            } else {
                token = bytes[next] == ';' ? SEMICOLON : NO_TOKEN;
                next++;
            }
        }

        private static boolean isLetter(int b) {
            return 'a' <= b && b <= 'z';
        }

        private static boolean isDigit(int b) {
            return '0' <= b && b <= '9';
        }
    }
}
