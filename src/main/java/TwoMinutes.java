/** A town that waits until it has been quiet for long enough; ../shared/DOC.md has the promises. */
public final class TwoMinutes {
    public static final int BAD = -1, FULL = -2, NONE = -3;

    private static final int NO_ROW = -9, NOTHING = -11, OUTSIDE = -12, OTHER_SORT = -13, BELOW_ZERO = -14, PARTED_BY_ZERO = -15;
    private static final int FAULTS = -100;

    private static final int GOAL = 0, LOUD = 1, WATCH = 2, COUGH = 3, LAWS = 4;
    private static final int[] LAW_AT_FIRST = {12, 1, 6, 20};
    private static final int[] LAW_LEAST = {1, 0, 0, 0};
    private static final int[] LAW_MOST = {99, 9, 99, 99};

    private static final int NEIGHBOUR = 0, COOK = 1, SOLDIER = 2, BAKER = 3, OFFICER = 4, MOTHER = 5, KINDS = 6;
    /** The KIND that each KIND stands right under. */
    private static final int[] ABOVE = {-1, NEIGHBOUR, NEIGHBOUR, COOK, SOLDIER, NEIGHBOUR};

    private static final int MOST_PEOPLE = 8, CORNERS = 12, MOST_BEAT = 9, MOST_PHASE = 8, MOST_COUNTED = 9999;
    private static final int MOST_SECONDS = 60, MOST_TRIED = 30;
    private static final int MOST_ROWS = 10, ROW_WIDTH = 3;
    private static final int SHEETS = 4, MOST_ITEMS = 40, BYTES = 0, SHORTS = 1, INTS = 2, LONGS = 3, MISSING = -1;
    private static final int SHELVES = 4, HOLDS_PERSON = 0, HOLDS_ROW = 1, HOLDS_NOTHING = 2, AS_ROW = 10;
    private static final int ACTS = 4;

    private final Town now = new Town();
    private final Town tried = new Town();
    private final Town saved = new Town();
    private boolean isSaved;
    private final Tape tape = new Tape();
    private final int[] rows = new int[MOST_ROWS * ROW_WIDTH];
    private int rowCount;
    private final Sheet[] sheets = new Sheet[SHEETS];
    private final Shelf[] shelves = new Shelf[SHELVES];
    private final Actor actor = new Actor();

    public TwoMinutes() {
        for (int i = 0; i < SHEETS; i++) {
            sheets[i] = new Sheet();
        }
        for (int i = 0; i < SHELVES; i++) {
            shelves[i] = new Shelf();
        }
    }

    // ---- the town as it is

    public int feed(long eight, int n) {
        if (n < 1 || n > 8) {
            return BAD;
        }
        if (tape.size + n > Tape.MOST_BYTES) {
            return FULL;
        }
        for (int i = 0; i < n; i++) {
            tape.append((int) (eight >>> (8 * i)) & 255);
        }
        return tape.size;
    }

    public int town() {
        tried.copyFrom(now);
        tried.clear();
        int fault = tape.readInto(tried);
        tape.size = 0;
        if (fault >= 0) {
            return FAULTS - fault;
        }
        now.copyFrom(tried);
        rowCount = 0;
        return now.count;
    }

    public int set(int law, int v) {
        if (!isIn(law, 0, LAWS - 1) || !isIn(v, LAW_LEAST[law], LAW_MOST[law])) {
            return BAD;
        }
        int was = now.laws[law];
        now.laws[law] = v;
        return was;
    }

    public int lawOf(int law) {
        return isIn(law, 0, LAWS - 1) ? now.laws[law] : BAD;
    }

    public int person(int kind, int beat, int phase, int corner) {
        if (!isKind(kind) || !isIn(beat, 1, MOST_BEAT) || !isIn(phase, 0, MOST_PHASE) || !isCorner(corner)) {
            return BAD;
        }
        if (now.count >= MOST_PEOPLE) {
            return FULL;
        }
        now.add(kind, beat, phase, corner);
        return now.count - 1;
    }

    public int of(int person, int what) {
        if (!now.has(person)) {
            return BAD;
        }
        switch (what) {
            case 0: return now.kinds[person];
            case 1: return now.beats[person];
            case 2: return now.phases[person];
            case 3: return now.corners[person];
            case 4: return now.noises[person];
            case 5: return now.isSounding(person) ? 1 : 0;
            case 6: return now.reachOf(person);
            default: return BAD;
        }
    }

    public int mind(int person, int kind) {
        if (!now.has(person) || !isKind(kind)) {
            return BAD;
        }
        int was = now.kinds[person];
        now.kinds[person] = kind;
        return was;
    }

    public int change(int person, int what, int v) {
        if (!now.has(person)) {
            return BAD;
        }
        if (what == 1 && isIn(v, 1, MOST_BEAT)) {
            int was = now.beats[person];
            now.beats[person] = v;
            return was;
        }
        if (what == 2 && isIn(v, 0, MOST_PHASE)) {
            int was = now.phases[person];
            now.phases[person] = v;
            return was;
        }
        return BAD;
    }

    public int bring(int person, int corner) {
        if (!now.has(person) || !isCorner(corner)) {
            return BAD;
        }
        int was = now.corners[person];
        now.corners[person] = corner;
        return was;
    }

    public int corner(int corner, int what) {
        if (!isCorner(corner)) {
            return BAD;
        }
        switch (what) {
            case 0: return now.setAt(corner);
            case 1: return now.heardOf(now.soundingSet(), corner);
            default: return BAD;
        }
    }

    public int seconds(int n) {
        if (!isIn(n, 1, MOST_SECONDS)) {
            return BAD;
        }
        for (int i = 0; i < n; i++) {
            now.pass();
        }
        return now.run;
    }

    public int seed(int v) {
        int was = now.z;
        now.z = v;
        return was;
    }

    public int second() {
        now.passByDraws();
        return now.run;
    }

    public int spoilt(int n) {
        if (!isIn(n, 1, MOST_TRIED)) {
            return BAD;
        }
        int undisturbed = runBehind(1);
        int spoiltOnes = 0;
        int z = now.z;
        for (int i = 0; i < n; i++) {
            tried.copyFrom(now);
            tried.z = z;
            tried.passByDraws();
            z = tried.z;
            if (tried.run < undisturbed) {
                spoiltOnes++;
            }
        }
        return spoiltOnes;
    }

    public int state(int what) {
        switch (what) {
            case 0: return now.second;
            case 1: return now.run;
            case 2: return now.longest;
            case 3: return now.done;
            case 4: return now.noiseOfAll();
            case 5: return now.soundingSet();
            default: return BAD;
        }
    }

    public int anew() {
        int was = now.run;
        now.forget();
        return was;
    }

    // ---- what is tried

    public int lasts(int n) {
        return isIn(n, 0, MOST_SECONDS) ? runBehind(n) : BAD;
    }

    public int length(int n) {
        if (!isIn(n, 1, MOST_SECONDS)) {
            return BAD;
        }
        tried.copyFrom(now);
        return tried.longestWithin(n);
    }

    public int kept() {
        tried.copyFrom(now);
        for (int i = 0; i < MOST_SECONDS && tried.done == 0; i++) {
            tried.pass();
            if (tried.done == 1) {
                return i + 1;
            }
        }
        return tried.done == 1 ? 0 : NONE;
    }

    public int broken(int what) {
        if (!isIn(what, 0, 1)) {
            return BAD;
        }
        tried.copyFrom(now);
        for (int i = 1; i <= MOST_SECONDS; i++) {
            int sounding = tried.pass();
            if (sounding != 0) {
                return what == 0 ? i : Integer.numberOfTrailingZeros(sounding);
            }
        }
        return NONE;
    }

    public int phaseFor(int person, int n) {
        return isTrial(person, n, MOST_SECONDS) ? quietest(tried.phases, person, 0, MOST_PHASE, n) : BAD;
    }

    public int beatFor(int person, int n) {
        return isTrial(person, n, MOST_SECONDS) ? quietest(tried.beats, person, 1, MOST_BEAT, n) : BAD;
    }

    public int kindFor(int person, int n) {
        return isTrial(person, n, MOST_SECONDS) ? quietest(tried.kinds, person, 0, KINDS - 1, n) : BAD;
    }

    public int pairFor(int person, int other, int n) {
        if (!isTrial(person, n, MOST_TRIED) || !now.has(other) || person == other) {
            return BAD;
        }
        int greatest = -1;
        int best = 0;
        for (int first = 0; first <= MOST_PHASE; first++) {
            for (int second = 0; second <= MOST_PHASE; second++) {
                tried.copyFrom(now);
                tried.phases[person] = first;
                tried.phases[other] = second;
                int quiet = tried.longestWithin(n);
                if (quiet > greatest) {
                    greatest = quiet;
                    best = first * 10 + second;
                }
            }
        }
        return best;
    }

    public int awayFor(int n, int v) {
        if (!isIn(n, 1, MOST_TRIED) || !isIn(v, 0, 99)) {
            return BAD;
        }
        int sets = 1 << now.count;
        for (int size = 0; size <= now.count; size++) {
            for (int away = 0; away < sets; away++) {
                if (Integer.bitCount(away) == size && isQuietWithout(away, n, v)) {
                    return away;
                }
            }
        }
        return NONE;
    }

    public int heard(int corner, int n) {
        return isCorner(corner) && isIn(n, 1, MOST_SECONDS) ? secondsHeard(corner, n) : BAD;
    }

    public int calm(int n) {
        if (!isIn(n, 1, MOST_SECONDS)) {
            return BAD;
        }
        int fewest = MOST_SECONDS + 1;
        int calmest = 0;
        for (int corner = 0; corner < CORNERS; corner++) {
            int heardThere = secondsHeard(corner, n);
            if (heardThere < fewest) {
                fewest = heardThere;
                calmest = corner;
            }
        }
        return calmest;
    }

    public int fits(int sheet, int person, int what) {
        if (!isSheet(sheet) || !now.has(person) || !isIn(what, 0, 1)) {
            return BAD;
        }
        if (sheets[sheet].sort == MISSING) {
            return NOTHING;
        }
        int fitting = 0;
        for (int phase = MOST_PHASE; phase >= 0; phase--) {
            fitting = fitting * 2 + (isTold(sheets[sheet], person, phase) ? 1 : 0);
        }
        if (what == 0) {
            return Integer.bitCount(fitting);
        }
        return fitting == 0 ? NONE : Integer.numberOfTrailingZeros(fitting);
    }

    private int runBehind(int n) {
        tried.copyFrom(now);
        for (int i = 0; i < n; i++) {
            tried.pass();
        }
        return tried.run;
    }

    /** The least value of what is tried (a row of the tried town) with which it is quiet longest. */
    private int quietest(int[] values, int person, int least, int most, int n) {
        int greatest = -1;
        int best = least;
        for (int value = least; value <= most; value++) {
            tried.copyFrom(now);
            values[person] = value;
            int quiet = tried.longestWithin(n);
            if (quiet > greatest) {
                greatest = quiet;
                best = value;
            }
        }
        return best;
    }

    /** Whether LENGTH by n is v or more, some being away; given up as soon as what is left can't do it. */
    private boolean isQuietWithout(int away, int n, int v) {
        tried.copyFrom(now);
        for (int left = n; left > 0 && tried.run + left >= v; left--) {
            tried.endSecond(tried.soundingSet() & ~away);
            if (tried.run >= v) {
                return true;
            }
        }
        return false;
    }

    private int secondsHeard(int corner, int n) {
        tried.copyFrom(now);
        int heardThere = 0;
        for (int i = 0; i < n; i++) {
            int sounding = tried.soundingSet();
            if (tried.heardOf(sounding, corner) != 0) {
                heardThere++;
            }
            tried.endSecond(sounding);
        }
        return heardThere;
    }

    /** Whether RUN would be as a SHEET tells it, if one had that PHASE. */
    private boolean isTold(Sheet told, int person, int phase) {
        tried.copyFrom(now);
        tried.phases[person] = phase;
        for (int i = 0; i < told.size; i++) {
            tried.endSecond(tried.soundingSet());
            if (told.items[i] != -1 && told.items[i] != tried.run) {
                return false;
            }
        }
        return true;
    }

    // ---- odds

    public long odds(int n, int k, int part) {
        if (!isIn(n, 0, 8) || !isIn(k, 0, n) || !isIn(part, 0, 1)) {
            return BAD;
        }
        long above = 1;
        long below = 1;
        for (int i = 1; i <= k; i++) {
            above = above * (n - k + i) / i;
        }
        for (int i = 0; i < n; i++) {
            above *= i < k ? now.laws[COUGH] : 100 - now.laws[COUGH];
            below *= 100;
        }
        return partOf(above, below, part);
    }

    public long hope(int n, int part) {
        if (!isIn(n, 0, 99) || !isIn(part, 0, 1)) {
            return BAD;
        }
        return partOf(n * now.laws[COUGH], 100, part);
    }

    private static long partOf(long above, long below, int part) {
        long divisor = greatestDivisor(above, below);
        long asked = part == 0 ? above : below;
        return divisor == 0 ? asked : asked / divisor;
    }

    private static long greatestDivisor(long one, long other) {
        // Euclid's way takes some five steps a digit at most; a long has 19 digits.
        for (int i = 0; i < 200 && other != 0; i++) {
            long left = one % other;
            one = other;
            other = left;
        }
        return one;
    }

    // ---- rows of seconds

    public int prove(int person, int n) {
        if (!isTrial(person, n, MOST_ROWS)) {
            return BAD;
        }
        tried.copyFrom(now);
        for (int i = 0; i < n; i++) {
            int sounding = tried.pass();
            rows[i * ROW_WIDTH] = sounding >> person & 1;
            rows[i * ROW_WIDTH + 1] = tried.run;
            rows[i * ROW_WIDTH + 2] = tried.noises[person];
        }
        rowCount = n;
        return n;
    }

    public int row(int i, int what) {
        return isCell(i, what) ? rows[i * ROW_WIDTH + what] : NO_ROW;
    }

    public int alterRow(int i, int what, int v) {
        if (!isCell(i, what)) {
            return NO_ROW;
        }
        int was = rows[i * ROW_WIDTH + what];
        rows[i * ROW_WIDTH + what] = v;
        return was;
    }

    public int judge(int person) {
        if (!now.has(person)) {
            return BAD;
        }
        tried.copyFrom(now);
        for (int i = 0; i < rowCount; i++) {
            int sounding = tried.pass();
            if (rows[i * ROW_WIDTH] != (sounding >> person & 1)
                    || rows[i * ROW_WIDTH + 1] != tried.run
                    || rows[i * ROW_WIDTH + 2] != tried.noises[person]) {
                return i + 1;
            }
        }
        return 0;
    }

    private boolean isCell(int i, int what) {
        return isIn(i, 0, rowCount - 1) && isIn(what, 0, ROW_WIDTH - 1);
    }

    // ---- sheets

    public int minds(int sheet, int i, int person, int n) {
        if (!isSheet(sheet) || !now.has(person) || !isIn(n, 0, MOST_PEOPLE) || person + n > now.count) {
            return BAD;
        }
        Sheet told = sheets[sheet];
        if (told.sort == MISSING) {
            return NOTHING;
        }
        if (told.sort != BYTES) {
            return OTHER_SORT;
        }
        if (!isIn(i, 0, told.size) || i + n > told.size) {
            return OUTSIDE;
        }
        for (int k = 0; k < n; k++) {
            now.phases[person + k] = Math.max(0, Math.min(MOST_PHASE, (int) told.items[i + k]));
        }
        return n;
    }

    public int sheet(int sheet, int sort, int n) {
        if (!isSheet(sheet) || !isIn(sort, MISSING, LONGS)) {
            return BAD;
        }
        if (sort != MISSING && n > MOST_ITEMS) {
            return BAD;
        }
        if (sort != MISSING && n < 0) {
            return BELOW_ZERO;
        }
        sheets[sheet].become(sort, sort == MISSING ? 0 : n);
        return 1;
    }

    public int put(int sheet, int i, int v) {
        if (!isSheet(sheet)) {
            return BAD;
        }
        if (sheets[sheet].sort == MISSING) {
            return NOTHING;
        }
        if (!isIn(i, 0, sheets[sheet].size - 1)) {
            return OUTSIDE;
        }
        sheets[sheet].items[i] = sheets[sheet].narrowed(v);
        return 1;
    }

    public int item(int sheet, int sort, int i) {
        if (!isSheet(sheet) || !isIn(sort, BYTES, LONGS)) {
            return BAD;
        }
        if (sheets[sheet].sort == MISSING) {
            return NOTHING;
        }
        if (sheets[sheet].sort != sort) {
            return OTHER_SORT;
        }
        if (!isIn(i, 0, sheets[sheet].size - 1)) {
            return OUTSIDE;
        }
        return (int) sheets[sheet].items[i];
    }

    // ---- shelves and acts

    public int shelf(int shelf, int what, int n) {
        if (!isShelf(shelf) || !isIn(what, HOLDS_PERSON, HOLDS_NOTHING)) {
            return BAD;
        }
        if (what == HOLDS_PERSON && !now.has(n) || what == HOLDS_ROW && !isSheet(n)) {
            return BAD;
        }
        if (what == HOLDS_PERSON) {
            shelves[shelf].holdPerson(n);
        } else if (what == HOLDS_ROW && sheets[n].sort != MISSING) {
            shelves[shelf].holdRow(sheets[n].sort, sheets[n].size);
        } else {
            shelves[shelf].holdNothing();
        }
        return 1;
    }

    public int taken(int shelf, int as) {
        if (!isShelf(shelf) || !isKind(as) && !isIn(as, AS_ROW + BYTES, AS_ROW + LONGS)) {
            return BAD;
        }
        Shelf held = shelves[shelf];
        boolean holdsOne = holdsPerson(held);
        if (!holdsOne && held.what != HOLDS_ROW) {
            return NOTHING;
        }
        if (as >= AS_ROW) {
            return !holdsOne && held.sort == as - AS_ROW ? held.size : OTHER_SORT;
        }
        return holdsOne && isUnder(now.kinds[held.number], as) ? held.number : OTHER_SORT;
    }

    public int act(int shelf, int act, int x) {
        actor.begun = 0;
        if (!isShelf(shelf) || !isIn(act, 0, ACTS - 1) || !holdsPerson(shelves[shelf])) {
            return 0;
        }
        int number = shelves[shelf].number;
        return actor.play(now.kinds[number], number, now.beats[number], act, x);
    }

    public int trace(int i) {
        return isIn(i, 0, actor.begun - 1) ? actor.bodies[i] : NONE;
    }

    private boolean holdsPerson(Shelf held) {
        return held.what == HOLDS_PERSON && now.has(held.number);
    }

    private static boolean isUnder(int kind, int as) {
        int above = kind;
        for (int i = 0; i < KINDS && isKind(above); i++) {
            if (above == as) {
                return true;
            }
            above = ABOVE[above];
        }
        return false;
    }

    // ---- counts, and the town that is kept

    public int many(int what) {
        switch (what) {
            case 0: return now.count;
            case 1: return Integer.bitCount(now.soundingSet());
            case 2: return now.cornersTaken();
            case 3: return now.thoseWithNoise();
            case 4: return rowCount;
            case 5: return tape.size;
            case 6: return actor.begun;
            default: return BAD;
        }
    }

    public int keep() {
        saved.copyFrom(now);
        isSaved = true;
        return 1;
    }

    public int again() {
        if (!isSaved) {
            return NONE;
        }
        now.copyFrom(saved);
        return now.count;
    }

    // ---- whether numbers are as told

    private static boolean isIn(int v, int least, int most) {
        return v >= least && v <= most;
    }

    private static boolean isKind(int kind) {
        return isIn(kind, 0, KINDS - 1);
    }

    private static boolean isCorner(int corner) {
        return isIn(corner, 0, CORNERS - 1);
    }

    private static boolean isSheet(int sheet) {
        return isIn(sheet, 0, SHEETS - 1);
    }

    private static boolean isShelf(int shelf) {
        return isIn(shelf, 0, SHELVES - 1);
    }

    private boolean isTrial(int person, int n, int mostSeconds) {
        return now.has(person) && isIn(n, 1, mostSeconds);
    }

    /** All that keep() keeps: LAWS, PEOPLE, SECONDS and z. */
    private static final class Town {
        final int[] laws = new int[LAWS];
        final int[] kinds = new int[MOST_PEOPLE];
        final int[] beats = new int[MOST_PEOPLE];
        final int[] phases = new int[MOST_PEOPLE];
        final int[] corners = new int[MOST_PEOPLE];
        final int[] noises = new int[MOST_PEOPLE];
        int count;
        int second;
        int run;
        int longest;
        int done;
        int z = 1;

        Town() {
            clear();
        }

        /** All is as at first, but for z: a TEXT leaves that as it is. */
        void clear() {
            System.arraycopy(LAW_AT_FIRST, 0, laws, 0, LAWS);
            count = 0;
            second = 0;
            forget();
        }

        void forget() {
            run = 0;
            longest = 0;
            done = 0;
            for (int i = 0; i < MOST_PEOPLE; i++) {
                noises[i] = 0;
            }
        }

        void copyFrom(Town other) {
            System.arraycopy(other.laws, 0, laws, 0, LAWS);
            System.arraycopy(other.kinds, 0, kinds, 0, MOST_PEOPLE);
            System.arraycopy(other.beats, 0, beats, 0, MOST_PEOPLE);
            System.arraycopy(other.phases, 0, phases, 0, MOST_PEOPLE);
            System.arraycopy(other.corners, 0, corners, 0, MOST_PEOPLE);
            System.arraycopy(other.noises, 0, noises, 0, MOST_PEOPLE);
            count = other.count;
            second = other.second;
            run = other.run;
            longest = other.longest;
            done = other.done;
            z = other.z;
        }

        boolean has(int who) {
            return isIn(who, 0, count - 1);
        }

        void add(int kind, int beat, int phase, int corner) {
            if (count >= MOST_PEOPLE) {
                return;
            }
            kinds[count] = kind;
            beats[count] = beat;
            phases[count] = phase;
            corners[count] = corner;
            noises[count] = 0;
            count++;
        }

        boolean isOnBeat(int who) {
            int beat = beats[who];
            return beat > 0 && (second + phases[who]) % beat == 0;
        }

        boolean isSounding(int who) {
            switch (kinds[who]) {
                case COOK: return isCooking(who);
                case BAKER: return isCooking(who) || second % 7 == 0;
                case SOLDIER: return isMarching(who);
                case OFFICER: return isMarching(who) || run == 2 * beats[who];
                case MOTHER: return run >= laws[WATCH];
                default: return isOnBeat(who);
            }
        }

        private boolean isCooking(int who) {
            return run >= laws[LOUD] && isOnBeat(who);
        }

        private boolean isMarching(int who) {
            return second % 2 == 0 && isOnBeat(who);
        }

        int reachOf(int who) {
            switch (kinds[who]) {
                case COOK: return 2 + laws[LOUD];
                case BAKER: return (2 + laws[LOUD]) * 2;
                case SOLDIER: return 1;
                case OFFICER: return 1 + phases[who] / 3;
                case MOTHER: return 6;
                default: return 2;
            }
        }

        int soundingSet() {
            int sounding = 0;
            for (int who = 0; who < count; who++) {
                if (isSounding(who)) {
                    sounding |= 1 << who;
                }
            }
            return sounding;
        }

        /** Those of a set that are heard AT a CORNER. */
        int heardOf(int sounding, int corner) {
            int heardThere = 0;
            for (int who = 0; who < count; who++) {
                int apart = Math.abs(corners[who] - corner);
                int steps = Math.min(apart, CORNERS - apart);
                if ((sounding >> who & 1) == 1 && steps <= reachOf(who)) {
                    heardThere |= 1 << who;
                }
            }
            return heardThere;
        }

        int setAt(int corner) {
            int those = 0;
            for (int who = 0; who < count; who++) {
                if (corners[who] == corner) {
                    those |= 1 << who;
                }
            }
            return those;
        }

        /** A SECOND; answers who SOUNDED in it. */
        int pass() {
            int sounding = soundingSet();
            hear(sounding);
            endSecond(sounding);
            return sounding;
        }

        void passByDraws() {
            int coughing = 0;
            if (count > 0) {
                int who = draw() % count;
                if (draw() % 100 < laws[COUGH]) {
                    coughing = 1 << who;
                }
            }
            int sounding = soundingSet() | coughing;
            hear(sounding);
            endSecond(sounding);
        }

        private int draw() {
            z = z * 1103515245 + 12345;
            return z >>> 16;
        }

        private void hear(int sounding) {
            for (int who = 0; who < count && sounding != 0; who++) {
                int others = heardOf(sounding, corners[who]) & ~(1 << who);
                noises[who] = Math.min(MOST_COUNTED, noises[who] + Integer.bitCount(others));
            }
        }

        /** What a SECOND does beside NOISE, which no later SECOND asks for. */
        void endSecond(int sounding) {
            run = sounding == 0 ? Math.min(MOST_COUNTED, run + 1) : 0;
            longest = Math.max(longest, run);
            if (run >= laws[GOAL]) {
                done = 1;
            }
            second++;
        }

        /** LENGTH by n; the town has gone on by n SECONDS then. */
        int longestWithin(int n) {
            int greatest = 0;
            for (int i = 0; i < n; i++) {
                endSecond(soundingSet());
                greatest = Math.max(greatest, run);
            }
            return greatest;
        }

        int noiseOfAll() {
            int sum = 0;
            for (int who = 0; who < count; who++) {
                sum += noises[who];
            }
            return sum;
        }

        int thoseWithNoise() {
            int those = 0;
            for (int who = 0; who < count; who++) {
                if (noises[who] > 0) {
                    those++;
                }
            }
            return those;
        }

        int cornersTaken() {
            int takenOnes = 0;
            for (int corner = 0; corner < CORNERS; corner++) {
                if (setAt(corner) != 0) {
                    takenOnes++;
                }
            }
            return takenOnes;
        }
    }

    /** THE TAPE, and what reads a TEXT from it: sign by sign, each a NAME, a NUMBER or another byte. */
    private static final class Tape {
        static final int MOST_BYTES = 200;
        private static final int END = 0, NAME = 1, NUMBER = 2, OTHER = 3;
        private static final int RIGHT = -1, MOST_DIGITS = 3, BEAT_WITHOUT = 5, PHASE_WITHOUT = 0;

        private final int[] bytes = new int[MOST_BYTES];
        int size;
        private int sort;
        private int from;
        private int to;
        private int fault;

        void append(int oneByte) {
            if (size < MOST_BYTES) {
                bytes[size] = oneByte;
                size++;
            }
        }

        /** FAULT, or below 0 if all is right: then the town, clear before, is as the TEXT tells. */
        int readInto(Town town) {
            fault = RIGHT;
            to = 0;
            readSign();
            for (int i = 0; i < MOST_BYTES && sort != END && fault == RIGHT; i++) {
                readStatement(town);
            }
            return fault;
        }

        private void readStatement(Town town) {
            int kind = kindNamed();
            int law = lawNamed();
            if (kind >= 0 && town.count < MOST_PEOPLE) {
                readSign();
                readPerson(town, kind);
            } else if (law >= 0) {
                readSign();
                int v = takeNumber(LAW_LEAST[law], LAW_MOST[law]);
                takeSemicolon();
                town.laws[law] = v;
            } else {
                fail();
            }
        }

        private void readPerson(Town town, int kind) {
            if (!tookName("at")) {
                fail();
            }
            int corner = takeNumber(0, CORNERS - 1);
            int beat = tookName("beat") ? takeNumber(1, MOST_BEAT) : BEAT_WITHOUT;
            int phase = tookName("phase") ? takeNumber(0, MOST_PHASE) : PHASE_WITHOUT;
            takeSemicolon();
            town.add(kind, beat, phase, corner);
        }

        /** Goes on behind a NAME, if it is the one that stands here. */
        private boolean tookName(String name) {
            if (fault != RIGHT || !isName(name)) {
                return false;
            }
            readSign();
            return true;
        }

        private int takeNumber(int least, int most) {
            if (fault != RIGHT) {
                return least;
            }
            int v = numberRead();
            if (!isIn(v, least, most)) {
                fail();
                return least;
            }
            readSign();
            return v;
        }

        private void takeSemicolon() {
            if (fault != RIGHT) {
                return;
            }
            if (sort == OTHER && isIn(from, 0, size - 1) && bytes[from] == ';') {
                readSign();
            } else {
                fail();
            }
        }

        /** Only the first fault counts; after it nothing more is read. */
        private void fail() {
            if (fault == RIGHT) {
                fault = from;
            }
        }

        private void readSign() {
            from = to;
            while (from < size && bytes[from] == ' ') {
                from++;
            }
            to = from;
            sort = sortAt(from);
            if (sort == OTHER) {
                to++;
            }
            while ((sort == NAME || sort == NUMBER) && to < size && sortAt(to) == sort) {
                to++;
            }
        }

        private int sortAt(int place) {
            if (place < 0 || place >= size) {
                return END;
            }
            int oneByte = bytes[place];
            if (oneByte >= 'a' && oneByte <= 'z') {
                return NAME;
            }
            return oneByte >= '0' && oneByte <= '9' ? NUMBER : OTHER;
        }

        /** The NUMBER that was read; -1 if it is none, or one of too many digits. */
        private int numberRead() {
            if (sort != NUMBER || to - from > MOST_DIGITS) {
                return -1;
            }
            int v = 0;
            for (int i = from; i < to && i < size; i++) {
                v = v * 10 + bytes[i] - '0';
            }
            return v;
        }

        private boolean isName(String name) {
            if (sort != NAME || to - from != name.length() || to > size) {
                return false;
            }
            for (int i = 0; i < name.length(); i++) {
                if (bytes[from + i] != name.charAt(i)) {
                    return false;
                }
            }
            return true;
        }

        private int kindNamed() {
            return isName("neighbour") ? NEIGHBOUR
                    : isName("cook") ? COOK
                    : isName("soldier") ? SOLDIER
                    : isName("baker") ? BAKER
                    : isName("officer") ? OFFICER
                    : isName("mother") ? MOTHER : -1;
        }

        private int lawNamed() {
            return isName("goal") ? GOAL
                    : isName("loud") ? LOUD
                    : isName("watch") ? WATCH
                    : isName("cough") ? COUGH : -1;
        }
    }

    /** A row of one sort, or a missing one; the items are made once and used by every row that the SHEET becomes. */
    private static final class Sheet {
        final long[] items = new long[MOST_ITEMS];
        int sort = MISSING;
        int size;

        void become(int newSort, int n) {
            sort = newSort;
            size = Math.max(0, Math.min(MOST_ITEMS, n));
            for (int i = 0; i < MOST_ITEMS; i++) {
                items[i] = 0;
            }
        }

        long narrowed(int v) {
            switch (sort) {
                case BYTES: return (byte) v;
                case SHORTS: return (short) v;
                default: return v;
            }
        }
    }

    /** What a SHELF holds. Of a row only the sort and the size can be asked, and a row never changes these. */
    private static final class Shelf {
        int what = HOLDS_NOTHING;
        int number;
        int sort;
        int size;

        void holdPerson(int who) {
            what = HOLDS_PERSON;
            number = who;
        }

        void holdRow(int rowSort, int rowSize) {
            what = HOLDS_ROW;
            sort = rowSort;
            size = rowSize;
        }

        void holdNothing() {
            what = HOLDS_NOTHING;
        }
    }

    /** One thing at a time, acting by the bodies of its KIND; and THE TRACE of that. */
    private static final class Actor {
        private static final int MOST_TRACED = 30, MOST_DEPTH = 40;
        private static final int TICKS = 0, RINGS = 1, PARTS = 2;
        /** The body of each act, KIND by KIND: what a KIND doesn't tell it has from the one above it. */
        private static final int[] BODY_OF = {
            10, 11, 12, 13,
            10, 20, 12, 13,
            30, 11, 12, 31,
            51, 20, 50, 13,
            40, 41, 12, 31,
            10, 11, 61, 60,
        };

        final int[] bodies = new int[MOST_TRACED];
        int begun;
        private int kind;
        private int n;
        private int a;
        private boolean isParted;

        int play(int kindOfThing, int number, int beat, int firstAct, int x) {
            kind = kindOfThing;
            n = number;
            a = beat;
            begun = 0;
            isParted = false;
            int answer = own(firstAct, x, 0);
            return isParted ? PARTED_BY_ZERO : answer;
        }

        /** An act as the thing itself does it. */
        private int own(int what, int x, int depth) {
            int place = kind * ACTS + what;
            return isIn(place, 0, BODY_OF.length - 1) ? body(BODY_OF[place], x, depth + 1) : 0;
        }

        /** A body, named outright where it is the one above that is meant. */
        private int body(int number, int x, int depth) {
            // Parting by 0 ends the whole act: no later body begins.
            if (isParted || depth > MOST_DEPTH) {
                return 0;
            }
            if (begun < MOST_TRACED) {
                bodies[begun] = number;
                begun++;
            }
            switch (number) {
                case 10: return x * 6 + n;
                case 11: return own(TICKS, x, depth) - a;
                case 12: return parted(x, a - n);
                case 13: return own(RINGS, x, depth) ^ 100;
                case 20: return body(11, x, depth + 1) * 2;
                case 30: return 0 - body(10, x, depth + 1);
                case 31: return body(13, x, depth + 1) + own(PARTS, n, depth);
                case 40: return body(30, x, depth + 1) - 9;
                case 41: return body(11, x, depth + 1) ^ own(TICKS, a, depth);
                case 50: return body(12, x * 5, depth + 1) + n;
                case 51: return body(10, x, depth + 1) + a;
                case 60: return body(13, x, depth + 1) - 1;
                case 61: return body(12, x, depth + 1) * own(TICKS, n, depth);
                default: return 0;
            }
        }

        private int parted(int x, int by) {
            if (by == 0) {
                isParted = true;
                return 0;
            }
            return x / by;
        }
    }
}
