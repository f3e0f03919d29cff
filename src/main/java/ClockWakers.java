import java.util.Arrays;

/** A street in which a clock is owned by whom it wakes; ../shared/DOC.md says what each call promises. */
public final class ClockWakers {
    public static final int UNKNOWN = -1, OUTSIDE = -2, STATE = -3, FULL = -4, NONE = -9;
    public static final long LOST = Long.MIN_VALUE;

    private static final int NO_FAULT = 0, NULL = 1, CAST = 2, INDEX = 3, SIZE = 4;
    private static final int FAULT_BASE = -10, WRONG_BASE = -100, TAKEN = 0;

    private static final int LEAST_HOUSES = 2, MOST_HOUSES = 6, MOST_CLOCKS = 4;
    private static final int MOST_DIGIT = 9, MOST_WALL = 3;
    private static final int SLEEPER = 0, NERVOUS = 1, BABY = 2;

    private static final int MOST_NIGHTS = 60, LAST_SETTLED_NIGHT = 99, MOST_READINGS = 8;
    private static final int SHEETS = 4, MOST_CELLS = 60, LANE_BYTES = 0, LANE_SHORTS = 1, LANE_INTS = 2;

    private static final int MOST_ACTS = 20, ACT_STROKE = 0, ACT_STUFF = 1, ACT_EASE = 2, ACT_NIGHTS = 3, ACT_CARRY = 10;
    private static final int ASK_STUFFED = 0, ASK_WRONG = 1, ASK_CARRIED = 2, ASK_UNHEARD = 3, ASK_HOUSES = 4, ASK_PLACE = 10;

    private final Street now = new Street();
    /** What is only tried out happens here, so that the street itself is never changed by a question. */
    private final Street trial = new Street();
    private final Text text = new Text();
    private final Readings readings = new Readings();
    private final Arrangement arrangement = new Arrangement();
    private final Sheet[] sheets = {new Sheet(), new Sheet(), new Sheet(), new Sheet()};
    private final int[] strokesUntil = new int[MOST_HOUSES];
    private int night;
    private int traceLeft;
    private int latestFault;

    public ClockWakers() {
    }

    // ---- 1 the street

    public int street(int sheet, int lane, int i, int n) {
        latestFault = NO_FAULT;
        if (!isSheet(sheet)) {
            return UNKNOWN;
        }
        if (!isLane(lane)) {
            return OUTSIDE;
        }
        Sheet row = sheets[sheet];
        int found = row.faultAs(lane);
        if (found == NO_FAULT && n < 0) {
            found = SIZE;
        }
        if (found == NO_FAULT && row.lacks(i, n)) {
            found = INDEX;
        }
        if (found != NO_FAULT) {
            return faulty(found);
        }
        int firstFault = text.read(row, i, n, trial);
        if (firstFault != NONE) {
            return WRONG_BASE - firstFault;
        }
        now.become(trial);
        night = 0;
        readings.count = 0;
        return now.clocks;
    }

    public int ofHouse(int h, int what) {
        if (!now.hasHouse(h)) {
            return UNKNOWN;
        }
        switch (what) {
            case 0: return now.kind[h];
            case 1: return now.depth[h];
            case 2: return now.needs(h);
            case 3: return now.clocksIn(h);
            case 4: return now.clocksWaking(h);
            default: return OUTSIDE;
        }
    }

    public int ofClock(int c, int what) {
        if (!now.hasClock(c)) {
            return UNKNOWN;
        }
        switch (what) {
            case 0: return now.loud[c];
            case 1: return now.sound(c);
            case 2: return now.place[c];
            case 3: return now.stuffed[c] ? 1 : 0;
            case 4: return now.wakers(c, now.place[c]);
            case 5: return now.owner(c, now.place[c]);
            default: return OUTSIDE;
        }
    }

    public int drowse(int h, int v) {
        if (!now.hasHouse(h)) {
            return UNKNOWN;
        }
        if (v < 1 || v > MOST_DIGIT) {
            return OUTSIDE;
        }
        int was = now.depth[h];
        now.depth[h] = v;
        return was;
    }

    public int tune(int c, int v) {
        if (!now.hasClock(c)) {
            return UNKNOWN;
        }
        if (v < 1 || v > MOST_DIGIT) {
            return OUTSIDE;
        }
        int was = now.loud[c];
        now.loud[c] = v;
        return was;
    }

    public int wall(int v) {
        if (v < 0 || v > MOST_WALL) {
            return OUTSIDE;
        }
        if (!now.stands()) {
            return STATE;
        }
        int was = now.thick;
        now.thick = v;
        return was;
    }

    public long hears(int h, int c) {
        if (!now.hasHouse(h) || !now.hasClock(c)) {
            return LOST;
        }
        return now.heard(h, now.sound(c), now.place[c]);
    }

    // ---- 2 strokes

    public int stroke(int c) {
        return now.hasClock(c) ? now.strike(c) : UNKNOWN;
    }

    public int nights(int n) {
        if (n < 1 || n > MOST_NIGHTS) {
            return OUTSIDE;
        }
        if (!now.stands()) {
            return STATE;
        }
        trial.become(now);
        now.passNights(n);
        night += n;
        int elsewhere = 0;
        for (int c = 0; c < now.clocks; c++) {
            if (now.place[c] != trial.place[c]) {
                elsewhere++;
            }
        }
        return elsewhere;
    }

    public int stuff(int c) {
        if (!now.hasClock(c)) {
            return UNKNOWN;
        }
        if (now.stuffed[c]) {
            return STATE;
        }
        now.stuffed[c] = true;
        return Integer.bitCount(now.stuffedClocks());
    }

    public int ease(int c) {
        if (!now.hasClock(c)) {
            return UNKNOWN;
        }
        if (!now.stuffed[c]) {
            return STATE;
        }
        now.stuffed[c] = false;
        return Integer.bitCount(now.stuffedClocks());
    }

    public int carry(int c, int h) {
        if (!now.hasClock(c) || !now.hasHouse(h)) {
            return UNKNOWN;
        }
        int was = now.place[c];
        now.place[c] = h;
        return was;
    }

    public int season(int sheet, int lane, int i, int n, int what) {
        latestFault = NO_FAULT;
        if (!isSheet(sheet)) {
            return UNKNOWN;
        }
        if (!isLane(lane) || n < 0 || n > MOST_ACTS || !isAskedOfSeason(what)) {
            return OUTSIDE;
        }
        Sheet row = sheets[sheet];
        int found = row.faultAs(lane);
        if (found == NO_FAULT && row.lacks(i, 2 * n)) {
            found = INDEX;
        }
        if (found != NO_FAULT) {
            return faulty(found);
        }
        if (!now.stands()) {
            return STATE;
        }
        int refusal = refusalOfActs(row, i, n);
        if (refusal != TAKEN) {
            return refusal;
        }
        int firstWrong = playOnTrial(row, i, n);
        if (what == ASK_WRONG) {
            return firstWrong;
        }
        return firstWrong == NONE ? answerOfTrial(what) : WRONG_BASE - firstWrong;
    }

    // ---- 3 where clocks stand

    public int round(int c, int what) {
        if (!now.hasClock(c)) {
            return UNKNOWN;
        }
        if (what < 0 || what > 1) {
            return OUTSIDE;
        }
        Arrays.fill(strokesUntil, NONE);
        int at = now.place[c];
        int strokes = 0;
        // behind as many strokes as there are houses it has come back to one of them
        while (strokes < MOST_HOUSES && strokesUntil[at] == NONE) {
            strokesUntil[at] = strokes;
            at = now.placeAfterStroke(c, at);
            strokes++;
        }
        return what == 0 ? strokesUntil[at] : strokes - strokesUntil[at];
    }

    public int from(int h, int c) {
        if (!now.hasHouse(h) || !now.hasClock(c)) {
            return UNKNOWN;
        }
        int set = 0;
        for (int at = 0; at < now.houses; at++) {
            if (now.owner(c, at) == h) {
                set |= 1 << at;
            }
        }
        return set;
    }

    public int settle() {
        if (!now.stands()) {
            return STATE;
        }
        trial.become(now);
        for (int behind = 0; behind <= LAST_SETTLED_NIGHT; behind++) {
            int before = trial.carried;
            trial.passNights(1);
            // each clock strikes but once a night, so it stands elsewhere just if it was carried
            if (trial.carried == before) {
                return behind;
            }
        }
        return NONE;
    }

    public int still(int k) {
        if (k < -1 || k >= MOST_CLOCKS) {
            return OUTSIDE;
        }
        if (!now.stands()) {
            return STATE;
        }
        if (k >= now.clocks) {
            return NONE;
        }
        int fewest = arrangement.findStillest(now);
        return k < 0 ? fewest : arrangement.best[k];
    }

    public int hush(int h) {
        if (!now.hasHouse(h)) {
            return UNKNOWN;
        }
        int set = 0;
        for (int c = 0; c < now.clocks; c++) {
            if (now.wakes(h, now.sound(c), now.place[c])) {
                if (now.stuffed[c] || now.wakes(h, now.soundIf(c, true), now.place[c])) {
                    return NONE;
                }
                set |= 1 << c;
            }
        }
        return set;
    }

    // ---- 4 who woke

    public int reading(int c, int at, int h, int woke) {
        if (!now.hasClock(c) || !now.hasHouse(at) || !now.hasHouse(h)) {
            return UNKNOWN;
        }
        if (woke < 0 || woke > 1) {
            return OUTSIDE;
        }
        if (readings.count >= MOST_READINGS) {
            return FULL;
        }
        return readings.note(c, at, h, woke == 1);
    }

    public int back(int n) {
        if (n < 0 || n > readings.count) {
            return OUTSIDE;
        }
        readings.count -= n;
        return readings.count;
    }

    public int depths(int h) {
        if (!now.hasHouse(h)) {
            return UNKNOWN;
        }
        trial.become(now);
        int set = 0;
        for (int d = 1; d <= MOST_DIGIT; d++) {
            trial.depth[h] = d;
            set |= readings.bitIfAllHold(trial, d);
        }
        return set;
    }

    public int kinds(int h) {
        if (!now.hasHouse(h)) {
            return UNKNOWN;
        }
        trial.become(now);
        int set = 0;
        for (int k = SLEEPER; k <= BABY; k++) {
            trial.kind[h] = k;
            set |= readings.bitIfAllHold(trial, k);
        }
        return set;
    }

    public int louds(int c) {
        if (!now.hasClock(c)) {
            return UNKNOWN;
        }
        trial.become(now);
        int set = 0;
        for (int l = 1; l <= MOST_DIGIT; l++) {
            trial.loud[c] = l;
            set |= readings.bitIfAllHold(trial, l);
        }
        return set;
    }

    public int walls() {
        if (!now.stands()) {
            return STATE;
        }
        trial.become(now);
        int set = 0;
        for (int w = 0; w <= MOST_WALL; w++) {
            trial.thick = w;
            set |= readings.bitIfAllHold(trial, w);
        }
        return set;
    }

    public long odds(int h, int which) {
        if (!now.hasHouse(h) || which < 0 || which > 1) {
            return LOST;
        }
        int waking = 0;
        for (int c = 0; c < now.clocks; c++) {
            for (int at = 0; at < now.houses; at++) {
                if (now.wakes(h, now.sound(c), at)) {
                    waking++;
                }
            }
        }
        int all = now.clocks * now.houses;
        int shared = commonDivisor(waking, all);
        return which == 0 ? waking / shared : all / shared;
    }

    // ---- 5 sheets, parts

    public int sheet(int k, int lane, int n) {
        latestFault = NO_FAULT;
        if (!isSheet(k)) {
            return UNKNOWN;
        }
        if (!isLane(lane) || n > MOST_CELLS) {
            return OUTSIDE;
        }
        if (n < 0) {
            return faulty(SIZE);
        }
        sheets[k].renew(lane, n);
        return 1;
    }

    public int lose(int k) {
        if (!isSheet(k)) {
            return UNKNOWN;
        }
        int had = sheets[k].has ? 1 : 0;
        sheets[k].has = false;
        return had;
    }

    public int put(int k, int i, int v) {
        latestFault = NO_FAULT;
        if (!isSheet(k)) {
            return UNKNOWN;
        }
        Sheet row = sheets[k];
        if (!row.has) {
            return faulty(NULL);
        }
        if (row.lacks(i, 1)) {
            return faulty(INDEX);
        }
        row.cells[i] = row.cut(v);
        return 1;
    }

    public long cell(int k, int i, int lane) {
        latestFault = NO_FAULT;
        if (!isSheet(k) || !isLane(lane)) {
            return LOST;
        }
        Sheet row = sheets[k];
        latestFault = row.faultAs(lane);
        if (latestFault == NO_FAULT && row.lacks(i, 1)) {
            latestFault = INDEX;
        }
        return latestFault == NO_FAULT ? row.cells[i] : LOST;
    }

    public int copy(int k, int i, int other, int j, int n) {
        latestFault = NO_FAULT;
        if (!isSheet(k) || !isSheet(other)) {
            return UNKNOWN;
        }
        Sheet source = sheets[k];
        Sheet target = sheets[other];
        if (!source.has || !target.has) {
            return faulty(NULL);
        }
        if (source.lane != target.lane) {
            return faulty(CAST);
        }
        if (source.lacks(i, n) || target.lacks(j, n)) {
            return faulty(INDEX);
        }
        System.arraycopy(source.cells, i, target.cells, j, n);
        return n;
    }

    public int tell(int h) {
        if (!now.hasHouse(h)) {
            return UNKNOWN;
        }
        switch (now.kind[h]) {
            case NERVOUS: return nervousTells(h);
            case BABY: return babyTells(h);
            default: return sleeperTells(h);
        }
    }

    public int call(int h) {
        if (!now.hasHouse(h)) {
            return UNKNOWN;
        }
        return now.kind[h] == BABY ? babyIsCalled() : sleeperIsCalled(h);
    }

    public int as(int h, int kind) {
        latestFault = NO_FAULT;
        if (!now.hasHouse(h)) {
            return UNKNOWN;
        }
        if (kind < SLEEPER || kind > BABY) {
            return OUTSIDE;
        }
        // each kind is all the kinds before it, too
        return now.kind[h] < kind ? faulty(CAST) : 1;
    }

    public int trace() {
        return traceLeft;
    }

    public int fault() {
        return latestFault;
    }

    public int many(int what) {
        switch (what) {
            case 0: return now.houses;
            case 1: return now.clocks;
            case 2: return now.thick;
            case 3: return night;
            case 4: return readings.count;
            default: return OUTSIDE;
        }
    }

    // ---- what the calls share

    private static boolean isSheet(int k) {
        return k >= 0 && k < SHEETS;
    }

    private static boolean isLane(int lane) {
        return lane >= LANE_BYTES && lane <= LANE_INTS;
    }

    private int faulty(int which) {
        latestFault = which;
        return FAULT_BASE - which;
    }

    /** The greatest one; of 0 and a lower number it is that number, so that a share of nothing is 0 of 1. */
    private static int commonDivisor(int upper, int lower) {
        for (int d = lower; d > 1; d--) {
            if (upper % d == 0 && lower % d == 0) {
                return d;
            }
        }
        return 1;
    }

    // ---- seasons

    private static boolean isAskedOfSeason(int what) {
        return what >= ASK_STUFFED && what <= ASK_HOUSES
            || what >= ASK_PLACE && what < ASK_PLACE + MOST_CLOCKS;
    }

    /** All pairs are looked at before any is played: a refused call answers nothing of its season. */
    private int refusalOfActs(Sheet row, int i, int n) {
        for (int k = 0; k < n; k++) {
            int refusal = refusalOfAct(row.cells[i + 2 * k], row.cells[i + 2 * k + 1]);
            if (refusal != TAKEN) {
                return refusal;
            }
        }
        return TAKEN;
    }

    private int refusalOfAct(int first, int act) {
        switch (act) {
            case ACT_STROKE:
            case ACT_STUFF:
            case ACT_EASE:
                return now.hasClock(first) ? TAKEN : UNKNOWN;
            case ACT_NIGHTS:
                return first >= 0 && first <= MOST_DIGIT ? TAKEN : OUTSIDE;
            default:
                if (act < ACT_CARRY || act >= ACT_CARRY + MOST_CLOCKS) {
                    return OUTSIDE;
                }
                return now.hasHouse(first) ? TAKEN : UNKNOWN;
        }
    }

    /** The first act that can't be, or NONE; the trial is then as it is behind the season. */
    private int playOnTrial(Sheet row, int i, int n) {
        trial.become(now);
        for (int k = 0; k < n; k++) {
            if (!canAct(row.cells[i + 2 * k], row.cells[i + 2 * k + 1])) {
                return k;
            }
        }
        return NONE;
    }

    private boolean canAct(int first, int act) {
        switch (act) {
            case ACT_STROKE:
                trial.strike(first);
                return true;
            case ACT_STUFF:
                return canTurn(first, true);
            case ACT_EASE:
                return canTurn(first, false);
            case ACT_NIGHTS:
                trial.passNights(first);
                return true;
            default:
                return canCarry(act - ACT_CARRY, first);
        }
    }

    private boolean canTurn(int c, boolean stuffed) {
        if (trial.stuffed[c] == stuffed) {
            return false;
        }
        trial.stuffed[c] = stuffed;
        return true;
    }

    private boolean canCarry(int c, int h) {
        if (!trial.hasClock(c)) {
            return false;
        }
        trial.place[c] = h;
        return true;
    }

    private int answerOfTrial(int what) {
        switch (what) {
            case ASK_STUFFED: return trial.stuffedClocks();
            case ASK_CARRIED: return trial.carried;
            case ASK_UNHEARD: return trial.unheard;
            case ASK_HOUSES: return trial.housesWithClocks();
            default: return trial.hasClock(what - ASK_PLACE) ? trial.place[what - ASK_PLACE] : NONE;
        }
    }

    // ---- telling

    private void leave(int number) {
        traceLeft = 31 * traceLeft + number;
    }

    private int sleeperTells(int h) {
        leave(1);
        return now.depth[h];
    }

    private int nervousTells(int h) {
        leave(2);
        return sleeperTells(h) + 100;
    }

    private int babyTells(int h) {
        leave(3);
        int asNervous = nervousTells(h);
        return asNervous + sleeperTells(h);
    }

    private int sleeperIsCalled(int h) {
        leave(4);
        return h;
    }

    private int babyIsCalled() {
        leave(5);
        return 80;
    }

    /** Houses with their sleepers, clocks and where they stand; the callers look at numbers first. */
    private static final class Street {
        private static final int ASLEEP = -1;

        final int[] kind = new int[MOST_HOUSES];
        final int[] depth = new int[MOST_HOUSES];
        final int[] loud = new int[MOST_CLOCKS];
        final int[] place = new int[MOST_CLOCKS];
        final boolean[] stuffed = new boolean[MOST_CLOCKS];
        int houses;
        int clocks;
        int thick;
        /** Strokes, since this street became what it is, that carried a clock elsewhere, and that woke nobody. */
        int carried;
        int unheard;

        void clear() {
            houses = 0;
            clocks = 0;
            thick = 0;
            carried = 0;
            unheard = 0;
        }

        void become(Street other) {
            clear();
            houses = other.houses;
            clocks = other.clocks;
            thick = other.thick;
            for (int h = 0; h < houses; h++) {
                kind[h] = other.kind[h];
                depth[h] = other.depth[h];
            }
            for (int c = 0; c < clocks; c++) {
                loud[c] = other.loud[c];
                place[c] = other.place[c];
                stuffed[c] = other.stuffed[c];
            }
        }

        void addHouse(int itsKind, int itsDepth) {
            kind[houses] = itsKind;
            depth[houses] = itsDepth;
            houses++;
        }

        void addClock(int itsLoud, int itsPlace) {
            loud[clocks] = itsLoud;
            place[clocks] = itsPlace;
            stuffed[clocks] = false;
            clocks++;
        }

        boolean stands() {
            return houses > 0;
        }

        boolean hasHouse(int h) {
            return h >= 0 && h < houses;
        }

        boolean hasClock(int c) {
            return c >= 0 && c < clocks;
        }

        int needs(int h) {
            switch (kind[h]) {
                case NERVOUS: return depth[h] - 1;
                case BABY: return depth[h] / 2;
                default: return depth[h];
            }
        }

        int sound(int c) {
            return soundIf(c, stuffed[c]);
        }

        int soundIf(int c, boolean isStuffed) {
            return isStuffed ? loud[c] / 2 : loud[c];
        }

        int heard(int h, int sound, int at) {
            return sound - thick * Math.abs(h - at);
        }

        /** How much more is heard than needed by one who wakes by it; ASLEEP, below 0, of one who does not. */
        private static int spare(int heard, int needed) {
            return heard > 0 && heard >= needed ? heard - needed : ASLEEP;
        }

        boolean wakes(int h, int sound, int at) {
            return spare(heard(h, sound, at), needs(h)) != ASLEEP;
        }

        int wakers(int c, int at) {
            int sound = sound(c);
            int set = 0;
            for (int h = 0; h < houses; h++) {
                if (wakes(h, sound, at)) {
                    set |= 1 << h;
                }
            }
            return set;
        }

        int owner(int c, int at) {
            int sound = sound(c);
            int owner = NONE;
            int most = ASLEEP;
            for (int h = 0; h < houses; h++) {
                int spare = spare(heard(h, sound, at), needs(h));
                if (spare > most) {
                    most = spare;
                    owner = h;
                }
            }
            return owner;
        }

        int placeAfterStroke(int c, int at) {
            int owner = owner(c, at);
            return owner == NONE ? at : owner;
        }

        int strike(int c) {
            int owner = owner(c, place[c]);
            if (owner == NONE) {
                unheard++;
            } else if (owner != place[c]) {
                place[c] = owner;
                carried++;
            }
            return owner;
        }

        void passNights(int n) {
            for (int k = 0; k < n; k++) {
                for (int c = 0; c < clocks; c++) {
                    strike(c);
                }
            }
        }

        int clocksIn(int h) {
            int set = 0;
            for (int c = 0; c < clocks; c++) {
                if (place[c] == h) {
                    set |= 1 << c;
                }
            }
            return set;
        }

        int clocksWaking(int h) {
            int set = 0;
            for (int c = 0; c < clocks; c++) {
                if (wakes(h, sound(c), place[c])) {
                    set |= 1 << c;
                }
            }
            return set;
        }

        int stuffedClocks() {
            int set = 0;
            for (int c = 0; c < clocks; c++) {
                if (stuffed[c]) {
                    set |= 1 << c;
                }
            }
            return set;
        }

        int housesWithClocks() {
            int set = 0;
            for (int c = 0; c < clocks; c++) {
                set |= 1 << place[c];
            }
            return set;
        }
    }

    /** Reads the text of a street code by code; at stays at the first code with which no text goes on. */
    private static final class Text {
        private static final int NO_DIGIT = -1;

        private final int[] codes = new int[MOST_CELLS];
        private int count;
        private int at;

        /** NONE if the text is whole (then into is its street), else its first fault. */
        int read(Sheet from, int first, int howMany, Street into) {
            System.arraycopy(from.cells, first, codes, 0, howMany);
            count = howMany;
            at = 0;
            into.clear();
            boolean whole = readWall(into) && readHouses(into) && readClocks(into) && at == count;
            return whole ? NONE : at;
        }

        private boolean readWall(Street into) {
            if (!takeSign('c')) {
                return false;
            }
            into.thick = takeDigit(0, MOST_WALL);
            return into.thick != NO_DIGIT;
        }

        private boolean readHouses(Street into) {
            for (int h = 0; h < MOST_HOUSES && takeSign(';'); h++) {
                int kind = takeKind();
                if (kind == NONE) {
                    return false;
                }
                int depth = takeDigit(1, MOST_DIGIT);
                if (depth == NO_DIGIT) {
                    return false;
                }
                into.addHouse(kind, depth);
            }
            return into.houses >= LEAST_HOUSES;
        }

        private boolean readClocks(Street into) {
            for (int c = 0; c < MOST_CLOCKS && takeSign(','); c++) {
                int loud = takeDigit(1, MOST_DIGIT);
                if (loud == NO_DIGIT) {
                    return false;
                }
                int place = takeDigit(0, into.houses - 1);
                if (place == NO_DIGIT) {
                    return false;
                }
                into.addClock(loud, place);
            }
            return into.clocks > 0;
        }

        private boolean takeSign(char sign) {
            if (at >= count || codes[at] != sign) {
                return false;
            }
            at++;
            return true;
        }

        private int takeDigit(int least, int most) {
            if (at >= count) {
                return NO_DIGIT;
            }
            int code = codes[at];
            if (code < '0' + least || code > '0' + most) {
                return NO_DIGIT;
            }
            at++;
            return code - '0';
        }

        private int takeKind() {
            if (takeSign('s')) {
                return SLEEPER;
            }
            if (takeSign('n')) {
                return NERVOUS;
            }
            return takeSign('b') ? BABY : NONE;
        }
    }

    /** Who woke by which clock and who did not. */
    private static final class Readings {
        private final int[] clock = new int[MOST_READINGS];
        private final int[] place = new int[MOST_READINGS];
        private final int[] house = new int[MOST_READINGS];
        private final boolean[] woke = new boolean[MOST_READINGS];
        int count;

        int note(int c, int at, int h, boolean hasWoken) {
            clock[count] = c;
            place[count] = at;
            house[count] = h;
            woke[count] = hasWoken;
            return count++;
        }

        /** Only where the clock stood is the reading's own: whether it is stuffed is asked of the street, as it is by now. */
        int bitIfAllHold(Street street, int bit) {
            for (int r = 0; r < count; r++) {
                if (street.wakes(house[r], street.sound(clock[r]), place[r]) != woke[r]) {
                    return 0;
                }
            }
            return 1 << bit;
        }
    }

    /** Tries every row of houses for the clocks, the first row first. */
    private static final class Arrangement {
        final int[] best = new int[MOST_CLOCKS];
        private final int[] row = new int[MOST_CLOCKS];
        private final int[][] wakers = new int[MOST_CLOCKS][MOST_HOUSES];

        /** The fewest that wake by any clock; best is then the first row by which no more do. */
        int findStillest(Street street) {
            int rows = 1;
            for (int c = 0; c < street.clocks; c++) {
                rows *= street.houses;
                row[c] = 0;
                for (int at = 0; at < street.houses; at++) {
                    wakers[c][at] = street.wakers(c, at);
                }
            }
            int fewest = street.houses + 1;
            for (int k = 0; k < rows; k++) {
                int waking = Integer.bitCount(wakersOfRow(street.clocks));
                if (waking < fewest) {
                    fewest = waking;
                    System.arraycopy(row, 0, best, 0, street.clocks);
                }
                stepRow(street.clocks, street.houses);
            }
            return fewest;
        }

        private int wakersOfRow(int clocks) {
            int set = 0;
            for (int c = 0; c < clocks; c++) {
                set |= wakers[c][row[c]];
            }
            return set;
        }

        private void stepRow(int clocks, int houses) {
            for (int c = clocks - 1; c >= 0; c--) {
                row[c]++;
                if (row[c] < houses) {
                    return;
                }
                row[c] = 0;
            }
        }
    }

    /** A row of numbers of a lane, or nothing; its cells are made once and used for every row it gets. */
    private static final class Sheet {
        final int[] cells = new int[MOST_CELLS];
        boolean has;
        int lane;
        private int length;

        void renew(int newLane, int newLength) {
            has = true;
            lane = newLane;
            length = newLength;
            Arrays.fill(cells, 0);
        }

        int faultAs(int asLane) {
            if (!has) {
                return NULL;
            }
            return lane == asLane ? NO_FAULT : CAST;
        }

        /** Whether not all of n cells from i on are there; i is not out for no cells, either. */
        boolean lacks(int i, int n) {
            return i < 0 || i > length || n < 0 || n > length - i;
        }

        int cut(int v) {
            switch (lane) {
                case LANE_BYTES: return (byte) v;
                case LANE_SHORTS: return (short) v;
                default: return v;
            }
        }
    }
}
