/**
 * A sea of cells on which things of kinds earn and go by a rota of winds.
 *
 * All rows are made once, in the constructor, and used again by every call: what
 * a call makes would stay in the room in which all calls of a run live.
 */
public final class WindRota {
    private static final int BEYOND = -1000000001;
    private static final int FULL = -1000000002;
    private static final int KIND = -1000000003;
    private static final int NONE = -1000000004;
    private static final int STATE = -1000000005;
    private static final int MISSING = -1000000006;
    private static final int SIZE = -1000000007;
    private static final int FINDINGS = 7;

    private static final int COLUMNS = 6;
    private static final int ROWS = 6;
    private static final int CELLS = 36;
    private static final int NO_CELL = -1;

    private static final int WINDS = 8;
    private static final int CALM = 8;
    private static final int CALM_OFF = 4;
    private static final int[] ROWS_DOWN = {-1, -1, 0, 1, 1, 1, 0, -1};
    private static final int[] COLUMNS_RIGHT = {0, 1, 1, 1, 0, -1, -1, -1};
    private static final int[] NEARER_WAY = {0, 1, 2, 3, 4, 3, 2, 1};
    private static final int WEEK = 7;
    private static final int LAST_DAY = 9999;
    private static final int MOST_FORCE = 9;

    private static final int MILL = 0;
    private static final int FISHER = 1;
    private static final int WASHING = 2;
    private static final int KITE = 3;
    private static final int CAPTAIN = 4;
    private static final int WIDOW = 5;
    private static final int KINDS = 6;

    private static final int MOST_THINGS = 8;
    private static final int MOST_SUM = 99999;
    private static final int FAR_DAYS = 60;
    private static final int NEAR_DAYS = 30;
    private static final int MOST_BYTES = 120;
    private static final int SHEETS = 4;
    private static final int MOST_NUMBERS = 40;

    private final Sea sea;
    private final Sea trial;
    private final Sea kept;
    private boolean isKept;
    private final Thing walker;
    private final Thing second;
    private final Ways ways;
    private final Pick pick;
    private final Tape tape;
    private final Teller teller;
    private final Sheet[] sheets;
    private final int[] told;

    public WindRota() {
        sea = new Sea();
        trial = new Sea();
        kept = new Sea();
        isKept = false;
        walker = new Thing();
        second = new Thing();
        ways = new Ways();
        pick = new Pick();
        tape = new Tape();
        teller = new Teller(tape);
        sheets = new Sheet[SHEETS];
        for (int s = 0; s < SHEETS; s++) {
            sheets[s] = new Sheet();
        }
        told = new int[FINDINGS];
    }

    // ---- winds

    public int rota(int day, int w) {
        if (!within(day, WEEK - 1) || !within(w, CALM)) {
            return finding(BEYOND);
        }
        int was = sea.rota[day];
        sea.rota[day] = w;
        return was;
    }

    public int rotaOf(int day) {
        if (!within(day, WEEK - 1)) {
            return finding(BEYOND);
        }
        return sea.rota[day];
    }

    public int sick(int w, int v) {
        if (!within(w, WINDS - 1) || !within(v, 1)) {
            return finding(BEYOND);
        }
        int was = sea.isSick(w) ? 1 : 0;
        sea.makeSick(w, v == 1);
        return was;
    }

    public int force(int v) {
        if (!within(v, MOST_FORCE)) {
            return finding(BEYOND);
        }
        int was = sea.force;
        sea.force = v;
        return was;
    }

    public int blows(int day) {
        if (!within(day, LAST_DAY)) {
            return finding(BEYOND);
        }
        return sea.windOn(day);
    }

    public int lee(int cell, int w) {
        if (!within(cell, CELLS - 1) || !within(w, WINDS - 1)) {
            return finding(BEYOND);
        }
        int to = cellBehind(cell, w);
        return to == NO_CELL ? finding(NONE) : to;
    }

    // ---- things

    public int thing(int kind, int cell) {
        if (!within(kind, KINDS - 1) || !within(cell, CELLS - 1)) {
            return finding(BEYOND);
        }
        if (sea.isFull()) {
            return finding(FULL);
        }
        sea.add(kind, cell, 0);
        return sea.count - 1;
    }

    public int of(int thing, int what) {
        if (!sea.has(thing) || !within(what, 5)) {
            return finding(BEYOND);
        }
        Thing one = sea.things[thing];
        int wind = sea.windOn(sea.day);
        switch (what) {
            case 0:
                return one.kind;
            case 1:
                return one.cell;
            case 2:
                return one.facing;
            case 3:
                return one.sum;
            case 4:
                return one.earnings(sea.day, wind, sea.force);
            default:
                return one.isGoing(wind, sea.force) ? 1 : 0;
        }
    }

    public int set(int thing, int what, int v) {
        if (!sea.has(thing) || what < 1 || what > 3 || !within(v, mostOf(what))) {
            return finding(BEYOND);
        }
        Thing one = sea.things[thing];
        int was;
        if (what == 1) {
            was = one.cell;
            one.cell = v;
        } else if (what == 2) {
            was = one.facing;
            one.facing = v;
        } else {
            was = one.sum;
            one.sum = v;
        }
        return was;
    }

    public int turn(int thing, int kind) {
        if (!sea.has(thing) || !within(kind, KINDS - 1)) {
            return finding(BEYOND);
        }
        Thing one = sea.things[thing];
        int was = one.kind;
        one.kind = kind;
        return was;
    }

    public int as(int thing, int kind) {
        if (!sea.has(thing) || !within(kind, KINDS - 1)) {
            return finding(BEYOND);
        }
        Thing one = sea.things[thing];
        return isUnder(one.kind, kind) ? one.sum : finding(KIND);
    }

    // ---- days

    public int days(int n) {
        if (!isSpan(n, FAR_DAYS)) {
            return finding(BEYOND);
        }
        if (sea.day + n > LAST_DAY) {
            return finding(STATE);
        }
        sea.gainIn(n);
        return sea.sums();
    }

    public int bribe(int w) {
        if (!within(w, WINDS - 1)) {
            return finding(BEYOND);
        }
        if (sea.day >= LAST_DAY) {
            return finding(STATE);
        }
        sea.goDay(w);
        return sea.sums();
    }

    public int now(int what) {
        switch (what) {
            case 0:
                return sea.day;
            case 1:
                return sea.windOn(sea.day);
            case 2:
                return sea.force;
            case 3:
                return sea.sick;
            case 4:
                return sea.sums();
            case 5:
                return sea.earningsToday();
            case 6:
                return sea.goingToday();
            default:
                return finding(BEYOND);
        }
    }

    public int on(int thing, int n, int what) {
        if (!sea.has(thing) || !within(n, FAR_DAYS) || !within(what, 1)) {
            return finding(BEYOND);
        }
        walker.become(sea.things[thing]);
        for (int d = 0; d < n; d++) {
            sea.carry(walker, d);
        }
        return what == 0 ? walker.cell : walker.sum;
    }

    public int comes(int thing, int cell) {
        if (!sea.has(thing) || !within(cell, CELLS - 1)) {
            return finding(BEYOND);
        }
        walker.become(sea.things[thing]);
        for (int d = 0; d <= FAR_DAYS; d++) {
            if (walker.cell == cell) {
                return d;
            }
            sea.carry(walker, d);
        }
        return finding(NONE);
    }

    public int meet(int thing, int other) {
        if (!sea.has(thing) || !sea.has(other) || thing == other) {
            return finding(BEYOND);
        }
        walker.become(sea.things[thing]);
        second.become(sea.things[other]);
        for (int d = 0; d <= FAR_DAYS; d++) {
            if (walker.cell == second.cell) {
                return d;
            }
            sea.carry(walker, d);
            sea.carry(second, d);
        }
        return finding(NONE);
    }

    // ---- what is best

    public int bribes(int thing, int cell, int n) {
        if (!sea.has(thing) || !within(cell, CELLS - 1) || !within(n, NEAR_DAYS)) {
            return finding(BEYOND);
        }
        Thing one = sea.things[thing];
        ways.begin(one.cell);
        int least = ways.fewest[cell];
        for (int d = 0; d < n; d++) {
            ways.goDay(one, sea.windOn(sea.day + d), sea.force);
            least = Math.min(least, ways.fewest[cell]);
        }
        return least == Ways.NEVER ? finding(NONE) : least;
    }

    public int soonest(int thing, int cell, int k) {
        if (!sea.has(thing) || !within(cell, CELLS - 1) || !within(k, NEAR_DAYS)) {
            return finding(BEYOND);
        }
        Thing one = sea.things[thing];
        ways.begin(one.cell);
        for (int d = 0; d <= NEAR_DAYS; d++) {
            if (ways.fewest[cell] <= k) {
                return d;
            }
            ways.goDay(one, sea.windOn(sea.day + d), sea.force);
        }
        return finding(NONE);
    }

    public long reach(int thing, int n) {
        if (!sea.has(thing) || !within(n, NEAR_DAYS)) {
            return finding(BEYOND);
        }
        Thing one = sea.things[thing];
        ways.begin(one.cell);
        for (int d = 0; d < n; d++) {
            ways.goDay(one, sea.windOn(sea.day + d), sea.force);
        }
        return ways.reached();
    }

    public int swap(int n) {
        if (!isSpan(n, NEAR_DAYS)) {
            return finding(BEYOND);
        }
        trial.become(sea);
        pick.begin(trial.gainIn(n));
        for (int a = 0; a < WEEK; a++) {
            for (int b = a + 1; b < WEEK; b++) {
                trial.become(sea);
                trial.rota[a] = sea.rota[b];
                trial.rota[b] = sea.rota[a];
                pick.weigh(10 * a + b, trial.gainIn(n));
            }
        }
        return pick.found == Pick.NOTHING ? finding(NONE) : pick.found;
    }

    public int missed(int n) {
        if (!isSpan(n, NEAR_DAYS)) {
            return finding(BEYOND);
        }
        pick.begin(Pick.BELOW_ALL);
        for (int w = 0; w < WINDS; w++) {
            if (!sea.isSick(w)) {
                trial.become(sea);
                trial.makeSick(w, true);
                pick.weigh(w, -trial.gainIn(n));
            }
        }
        return pick.found == Pick.NOTHING ? finding(NONE) : pick.found;
    }

    public int enough(int n, int v) {
        if (!isSpan(n, NEAR_DAYS) || !within(v, MOST_SUM)) {
            return finding(BEYOND);
        }
        for (int f = 0; f <= MOST_FORCE; f++) {
            trial.become(sea);
            trial.force = f;
            if (trial.gainIn(n) >= v) {
                return f;
            }
        }
        return finding(NONE);
    }

    public int kind(int thing, int n) {
        if (!sea.has(thing) || !isSpan(n, NEAR_DAYS)) {
            return finding(BEYOND);
        }
        pick.begin(Pick.BELOW_ALL);
        for (int k = 0; k < KINDS; k++) {
            trial.become(sea);
            trial.things[thing].kind = k;
            pick.weigh(k, trial.gainIn(n));
        }
        return pick.found;
    }

    public int facing(int thing, int n) {
        if (!sea.has(thing) || !isSpan(n, NEAR_DAYS)) {
            return finding(BEYOND);
        }
        pick.begin(Pick.BELOW_ALL);
        for (int w = 0; w < WINDS; w++) {
            trial.become(sea);
            trial.things[thing].facing = w;
            pick.weigh(w, trial.gainIn(n));
        }
        return pick.found;
    }

    public int best(int day, int n) {
        if (!within(day, WEEK - 1) || !isSpan(n, NEAR_DAYS)) {
            return finding(BEYOND);
        }
        pick.begin(Pick.BELOW_ALL);
        for (int w = 0; w <= CALM; w++) {
            trial.become(sea);
            trial.rota[day] = w;
            pick.weigh(w, trial.gainIn(n));
        }
        return pick.found;
    }

    // ---- the text

    public int feed(int bytes, int n) {
        if (!isSpan(n, 4)) {
            return finding(BEYOND);
        }
        if (tape.length + n > MOST_BYTES) {
            return finding(FULL);
        }
        for (int i = n - 1; i >= 0; i--) {
            tape.put((bytes >> (8 * i)) & 255);
        }
        return tape.length;
    }

    public int wipe() {
        int had = tape.length;
        tape.length = 0;
        return had;
    }

    public int sea() {
        // The items come to a copy, so that a fault behind some of them leaves all as it was.
        trial.become(sea);
        int items = teller.tell(trial);
        if (items >= 0) {
            sea.become(trial);
        }
        tape.length = 0;
        return items;
    }

    // ---- sheets

    public int sheet(int s, int bits, int n) {
        if (!within(s, SHEETS - 1) || (bits != 0 && bits != 8 && bits != 16 && bits != 64)) {
            return finding(BEYOND);
        }
        if (n < 0) {
            return finding(SIZE);
        }
        if (n > MOST_NUMBERS) {
            return finding(BEYOND);
        }
        sheets[s].begin(bits, bits == 0 ? 0 : n);
        return sheets[s].size;
    }

    public long write(int s, int i, long v) {
        if (!within(s, SHEETS - 1)) {
            return finding(BEYOND);
        }
        Sheet one = sheets[s];
        if (one.isMissing()) {
            return finding(MISSING);
        }
        if (!within(i, one.size - 1)) {
            return finding(BEYOND);
        }
        long was = one.numbers[i];
        one.put(i, v);
        return was;
    }

    public int copy(int s, int from, int t, int to, int n) {
        if (!within(s, SHEETS - 1) || !within(t, SHEETS - 1)) {
            return finding(BEYOND);
        }
        Sheet source = sheets[s];
        Sheet target = sheets[t];
        if (source.isMissing() || target.isMissing()) {
            return finding(MISSING);
        }
        if (source.bits != target.bits) {
            return finding(KIND);
        }
        if (!source.spans(from, n) || !target.spans(to, n)) {
            return finding(BEYOND);
        }
        System.arraycopy(source.numbers, from, target.numbers, to, n);
        return n;
    }

    public int lays(int s) {
        if (!within(s, SHEETS - 1)) {
            return finding(BEYOND);
        }
        Sheet one = sheets[s];
        if (one.isMissing()) {
            return finding(MISSING);
        }
        int came = 0;
        for (int d = 0; d < WEEK && d < one.size; d++) {
            long wind = one.numbers[d];
            if (wind >= 0 && wind <= CALM) {
                sea.rota[d] = (int) wind;
                came++;
            }
        }
        return came;
    }

    public int book(int s, int thing) {
        int wrong = sheetFinding(s, thing);
        if (wrong != 0) {
            return finding(wrong);
        }
        Sheet one = sheets[s];
        walker.become(sea.things[thing]);
        for (int d = 0; d < one.size; d++) {
            one.put(d, walker.sum);
            sea.carry(walker, d);
        }
        return one.size;
    }

    public int read(int s, int thing) {
        int wrong = sheetFinding(s, thing);
        if (wrong != 0) {
            return finding(wrong);
        }
        int pairs = 0;
        for (int k = 0; k < KINDS; k++) {
            for (int w = 0; w < WINDS; w++) {
                walker.become(sea.things[thing]);
                walker.kind = k;
                walker.facing = w;
                if (walkerMakes(sheets[s])) {
                    pairs++;
                }
            }
        }
        return pairs;
    }

    // ---- images

    public int image() {
        kept.become(sea);
        isKept = true;
        return 1;
    }

    public int undo() {
        if (!isKept) {
            return finding(NONE);
        }
        sea.become(kept);
        return sea.count;
    }

    public int tear() {
        int was = isKept ? 1 : 0;
        isKept = false;
        return was;
    }

    public int count(int what) {
        switch (what) {
            case 0:
                return sea.count;
            case 1:
                return tape.length;
            case 2:
                return Integer.bitCount(sea.sick);
            case 3:
                return sea.calms();
            default:
                return finding(BEYOND);
        }
    }

    public int status(int which) {
        if (which < -1 || which >= FINDINGS) {
            return finding(BEYOND);
        }
        if (which >= 0) {
            return told[which];
        }
        int all = 0;
        for (int i = 0; i < FINDINGS; i++) {
            all += told[i];
        }
        return all;
    }

    // ---- what the calls share

    private int finding(int which) {
        int i = BEYOND - which;
        if (within(i, FINDINGS - 1)) {
            told[i]++;
        }
        return which;
    }

    /** The finding of a call on a sheet and a thing, in the order in which it is asked; 0: none. */
    private int sheetFinding(int s, int thing) {
        if (!within(s, SHEETS - 1)) {
            return BEYOND;
        }
        if (sheets[s].isMissing()) {
            return MISSING;
        }
        return sea.has(thing) ? 0 : BEYOND;
    }

    private boolean walkerMakes(Sheet one) {
        for (int d = 0; d < one.size; d++) {
            if (one.numbers[d] != walker.sum) {
                return false;
            }
            sea.carry(walker, d);
        }
        return true;
    }

    private static boolean within(int v, int most) {
        return v >= 0 && v <= most;
    }

    private static boolean isSpan(int n, int most) {
        return n >= 1 && n <= most;
    }

    private static int mostOf(int what) {
        if (what == 1) {
            return CELLS - 1;
        }
        return what == 2 ? WINDS - 1 : MOST_SUM;
    }

    /** The kind that stands right above a kind; a mill has none above it and stands for itself. */
    private static int kindAbove(int kind) {
        if (kind == CAPTAIN) {
            return FISHER;
        }
        return kind == WIDOW ? WASHING : MILL;
    }

    private static boolean isUnder(int kind, int above) {
        return kind == above || kindAbove(kind) == above || kindAbove(kindAbove(kind)) == above;
    }

    /** The cell to which a wind blows from a cell, or NO_CELL over the rim. */
    private static int cellBehind(int cell, int wind) {
        if (wind < 0 || wind >= WINDS) {
            return NO_CELL;
        }
        int row = cell / COLUMNS + ROWS_DOWN[wind];
        int column = cell % COLUMNS + COLUMNS_RIGHT[wind];
        if (!within(row, ROWS - 1) || !within(column, COLUMNS - 1)) {
            return NO_CELL;
        }
        return row * COLUMNS + column;
    }

    /** A thing of a kind at a cell. */
    private static final class Thing {
        int kind;
        int cell;
        int facing;
        int sum;

        void become(Thing other) {
            kind = other.kind;
            cell = other.cell;
            facing = other.facing;
            sum = other.sum;
        }

        int earnings(int day, int wind, int force) {
            int felt = wind == CALM ? 0 : force;
            int milled = Math.max(0, felt - off(wind));
            int dried = felt >= 1 && felt <= 5 ? 3 : 0;
            switch (kind) {
                case FISHER:
                    return milled + 1;
                case WASHING:
                    return dried;
                case KITE:
                    return off(wind) == 0 ? 2 * milled : milled;
                case CAPTAIN:
                    return isGoing(wind, force) ? milled + 1 : 0;
                case WIDOW:
                    return Math.floorMod(day, WEEK) == 1 ? dried + 5 : dried;
                default:
                    return milled;
            }
        }

        /** Whether it is held to go: over the rim, too, where it stays. */
        boolean isGoing(int wind, int force) {
            if (wind == CALM) {
                return false;
            }
            switch (kind) {
                case FISHER:
                    return force >= 2;
                case CAPTAIN:
                    return force >= 2 && off(wind) <= 1;
                case WASHING:
                case WIDOW:
                    return force == MOST_FORCE;
                default:
                    return false;
            }
        }

        /** Where one like this is after a day that it begins at a cell. */
        int cellAfter(int from, int wind, int force) {
            if (!isGoing(wind, force)) {
                return from;
            }
            int to = cellBehind(from, wind);
            return to == NO_CELL ? from : to;
        }

        void goDay(int day, int wind, int force) {
            sum = Math.min(MOST_SUM, sum + earnings(day, wind, force));
            cell = cellAfter(cell, wind, force);
        }

        private int off(int wind) {
            return wind == CALM ? CALM_OFF : NEARER_WAY[(wind - facing) & (WINDS - 1)];
        }
    }

    /** All that an image keeps: the day, the rota, the sick winds, the force and the things. */
    private static final class Sea {
        int day;
        final int[] rota;
        int sick;
        int force;
        int count;
        final Thing[] things;

        Sea() {
            day = 0;
            rota = new int[WEEK];
            for (int d = 0; d < WEEK; d++) {
                rota[d] = d == WEEK - 1 ? CALM : d;
            }
            sick = 0;
            force = 4;
            count = 0;
            things = new Thing[MOST_THINGS];
            for (int i = 0; i < MOST_THINGS; i++) {
                things[i] = new Thing();
            }
        }

        void become(Sea other) {
            day = other.day;
            System.arraycopy(other.rota, 0, rota, 0, WEEK);
            sick = other.sick;
            force = other.force;
            count = other.count;
            for (int i = 0; i < count; i++) {
                things[i].become(other.things[i]);
            }
        }

        boolean has(int thing) {
            return thing >= 0 && thing < count;
        }

        boolean isFull() {
            return count >= MOST_THINGS;
        }

        void add(int kind, int cell, int facing) {
            if (isFull()) {
                return;
            }
            Thing one = things[count];
            one.kind = kind;
            one.cell = cell;
            one.facing = facing;
            // The place may still tell of a thing that undo() took away.
            one.sum = 0;
            count++;
        }

        boolean isSick(int wind) {
            return (sick >> wind & 1) == 1;
        }

        void makeSick(int wind, boolean ill) {
            sick = ill ? sick | 1 << wind : sick & ~(1 << wind);
        }

        int calms() {
            int calms = 0;
            for (int d = 0; d < WEEK; d++) {
                if (rota[d] == CALM) {
                    calms++;
                }
            }
            return calms;
        }

        int windOn(int someDay) {
            int due = rota[Math.floorMod(someDay, WEEK)];
            if (due == CALM) {
                return CALM;
            }
            for (int i = 0; i < WINDS; i++) {
                int wind = (due + i) % WINDS;
                if (!isSick(wind)) {
                    return wind;
                }
            }
            return CALM;
        }

        int sums() {
            int all = 0;
            for (int i = 0; i < count; i++) {
                all += things[i].sum;
            }
            return all;
        }

        int earningsToday() {
            int wind = windOn(day);
            int all = 0;
            for (int i = 0; i < count; i++) {
                all += things[i].earnings(day, wind, force);
            }
            return all;
        }

        int goingToday() {
            int wind = windOn(day);
            int going = 0;
            for (int i = 0; i < count; i++) {
                if (things[i].isGoing(wind, force)) {
                    going |= 1 << i;
                }
            }
            return going;
        }

        void goDay(int wind) {
            for (int i = 0; i < count; i++) {
                things[i].goDay(day, wind, force);
            }
            day++;
        }

        /** Lets days go: what all the things earned in them. */
        int gainIn(int n) {
            int before = sums();
            for (int d = 0; d < n; d++) {
                goDay(windOn(day));
            }
            return sums() - before;
        }

        /** A copy of a thing goes the day that is some days ahead; this sea stays as it is. */
        void carry(Thing one, int ahead) {
            int someDay = day + ahead;
            one.goDay(someDay, windOn(someDay), force);
        }
    }

    /** The fewest bribes with which a thing is at each cell, day by day. */
    private static final class Ways {
        static final int NEVER = 1000;

        final int[] fewest;
        private final int[] next;

        Ways() {
            fewest = new int[CELLS];
            next = new int[CELLS];
        }

        void begin(int cell) {
            for (int c = 0; c < CELLS; c++) {
                fewest[c] = c == cell ? 0 : NEVER;
            }
        }

        void goDay(Thing one, int wind, int force) {
            for (int c = 0; c < CELLS; c++) {
                next[c] = NEVER;
            }
            for (int c = 0; c < CELLS; c++) {
                if (fewest[c] < NEVER) {
                    lower(one.cellAfter(c, wind, force), fewest[c]);
                    for (int w = 0; w < WINDS; w++) {
                        lower(one.cellAfter(c, w, force), fewest[c] + 1);
                    }
                }
            }
            System.arraycopy(next, 0, fewest, 0, CELLS);
        }

        long reached() {
            long cells = 0;
            for (int c = 0; c < CELLS; c++) {
                if (fewest[c] < NEVER) {
                    cells |= 1L << c;
                }
            }
            return cells;
        }

        private void lower(int cell, int bribes) {
            if (within(cell, CELLS - 1) && bribes < next[cell]) {
                next[cell] = bribes;
            }
        }
    }

    /** The first of the values that are weighed the heaviest, if heavier than what it began with. */
    private static final class Pick {
        static final int NOTHING = -1;
        /** No gain of eight things in thirty days comes near it, on either side of 0. */
        static final int BELOW_ALL = -1000000000;

        int found;
        private int most;

        void begin(int atLeast) {
            found = NOTHING;
            most = atLeast;
        }

        void weigh(int value, int weight) {
            if (weight > most) {
                found = value;
                most = weight;
            }
        }
    }

    /** The tape, and the token at which its reading stands. */
    private static final class Tape {
        static final int END = 0;
        static final int WORD = 1;
        static final int NUMBER = 2;
        static final int SIGN = 3;
        static final int OTHER = 4;

        private static final int TOO_LARGE = 1000;

        final int[] bytes;
        int length;
        int token;
        int place;
        private int behind;

        Tape() {
            bytes = new int[MOST_BYTES];
            length = 0;
        }

        void put(int value) {
            if (length < MOST_BYTES) {
                bytes[length] = value;
                length++;
            }
        }

        void begin() {
            behind = 0;
            nextToken();
        }

        void nextToken() {
            place = behind;
            while (place < length && bytes[place] == ' ') {
                place++;
            }
            behind = place;
            token = END;
            if (place < length) {
                token = tokenOf(bytes[place]);
                behind++;
            }
            if (token == WORD || token == NUMBER) {
                while (behind < length && tokenOf(bytes[behind]) == token) {
                    behind++;
                }
            }
        }

        boolean isWord(String word) {
            if (token != WORD || behind - place != word.length()) {
                return false;
            }
            for (int i = 0; i < word.length(); i++) {
                if (bytes[place + i] != word.charAt(i)) {
                    return false;
                }
            }
            return true;
        }

        /** What the digits of the token come to; TOO_LARGE stands for all that is above 999. */
        int number() {
            int value = 0;
            for (int i = place; i < behind; i++) {
                // A long row of digits must not wrap round to a small number.
                value = Math.min(TOO_LARGE, value * 10 + bytes[i] - '0');
            }
            return value;
        }

        private static int tokenOf(int first) {
            if (first >= 'a' && first <= 'z') {
                return WORD;
            }
            if (first >= '0' && first <= '9') {
                return NUMBER;
            }
            return first == ';' ? SIGN : OTHER;
        }
    }

    /** Tells the items of the tape's text to a sea; where one can't go on, the tape stands at the fault. */
    private static final class Teller {
        private static final int NO_NUMBER = -1;
        private static final int NO_KIND = -1;

        private final Tape tape;

        Teller(Tape tape) {
            this.tape = tape;
        }

        /** How many items there are, or -1 less the place of the fault. */
        int tell(Sea to) {
            tape.begin();
            for (int items = 1; items <= MOST_BYTES; items++) {
                if (!tellItem(to)) {
                    return -1 - tape.place;
                }
                if (tape.token == Tape.END) {
                    return items;
                }
                if (tape.token != Tape.SIGN) {
                    return -1 - tape.place;
                }
                tape.nextToken();
            }
            return -1 - tape.place;
        }

        private boolean tellItem(Sea to) {
            int kind = kindNamed();
            if (kind != NO_KIND) {
                return tellThing(to, kind);
            }
            if (takesWord("rota")) {
                return tellRota(to);
            }
            if (takesWord("sick")) {
                return tellHealth(to, true);
            }
            if (takesWord("well")) {
                return tellHealth(to, false);
            }
            return takesWord("force") && tellForce(to);
        }

        private boolean tellThing(Sea to, int kind) {
            // A 9th thing faults at its name: the tape must not have gone on.
            if (to.isFull()) {
                return false;
            }
            tape.nextToken();
            if (!takesWord("at")) {
                return false;
            }
            int cell = takenNumber(CELLS - 1);
            if (cell == NO_NUMBER) {
                return false;
            }
            int facing = 0;
            if (takesWord("facing")) {
                facing = takenNumber(WINDS - 1);
            }
            if (facing == NO_NUMBER) {
                return false;
            }
            to.add(kind, cell, facing);
            return true;
        }

        private boolean tellRota(Sea to) {
            for (int d = 0; d < WEEK; d++) {
                if (d > 0 && tape.token != Tape.NUMBER) {
                    return true;
                }
                int wind = takenNumber(CALM);
                if (wind == NO_NUMBER) {
                    return false;
                }
                to.rota[d] = wind;
            }
            return true;
        }

        private boolean tellHealth(Sea to, boolean ill) {
            int wind = takenNumber(WINDS - 1);
            if (wind == NO_NUMBER) {
                return false;
            }
            to.makeSick(wind, ill);
            return true;
        }

        private boolean tellForce(Sea to) {
            int force = takenNumber(MOST_FORCE);
            if (force == NO_NUMBER) {
                return false;
            }
            to.force = force;
            return true;
        }

        private int kindNamed() {
            for (int k = 0; k < KINDS; k++) {
                if (tape.isWord(nameOf(k))) {
                    return k;
                }
            }
            return NO_KIND;
        }

        private static String nameOf(int kind) {
            switch (kind) {
                case FISHER:
                    return "fisher";
                case WASHING:
                    return "washing";
                case KITE:
                    return "kite";
                case CAPTAIN:
                    return "captain";
                case WIDOW:
                    return "widow";
                default:
                    return "mill";
            }
        }

        private boolean takesWord(String word) {
            if (!tape.isWord(word)) {
                return false;
            }
            tape.nextToken();
            return true;
        }

        private int takenNumber(int most) {
            if (tape.token != Tape.NUMBER || tape.number() > most) {
                return NO_NUMBER;
            }
            int number = tape.number();
            tape.nextToken();
            return number;
        }
    }

    /** A row of numbers of 8, 16 or 64 bits, held with their sign; 0 bits: it is missing. */
    private static final class Sheet {
        int bits;
        int size;
        final long[] numbers;

        Sheet() {
            bits = 0;
            size = 0;
            numbers = new long[MOST_NUMBERS];
        }

        void begin(int newBits, int newSize) {
            bits = newBits;
            size = newSize;
            for (int i = 0; i < MOST_NUMBERS; i++) {
                numbers[i] = 0;
            }
        }

        boolean isMissing() {
            return bits == 0;
        }

        /** Whether it has n numbers from one on; asked without a sum that could wrap round. */
        boolean spans(int from, int n) {
            return from >= 0 && n >= 0 && n <= size && from <= size - n;
        }

        void put(int i, long v) {
            if (i >= 0 && i < size) {
                numbers[i] = lowest(v);
            }
        }

        private long lowest(long v) {
            if (bits == 8) {
                return (byte) v;
            }
            return bits == 16 ? (short) v : v;
        }
    }
}
