import java.util.Arrays;

/** Seven reaches of a river over 96 months, all worked anew from month 0 whenever anything is told. */
public final class RiverCompact {
    public static final int NONE = -1, BAD = -2, STATE = -3, FULL = -4;
    public static final long NO = -4611686018427387904L;

    private static final int NO_LAKE = -5, NO_CHOICE = -5, TOO_MANY_LAKES = -6;
    private static final int NOTHING = -11, OUTSIDE = -12, OTHER_SORT = -13, BELOW_ZERO = -14;
    private static final int FAULTS = -100;

    private static final int REACHES = 7, BORDER = 6, MONTHS = 96, YEAR = 12, YEARS = 8, STATES = 4;
    private static final int MOST_FLOODS = 24, MOST_GAUGES = 40, MOST_HOLDS = 16, MOST_CALLS = 16;
    private static final int MOST_TEXTS = 6, TAPE = 160, MOST_OPEN = 5;
    private static final int SHEETS = 4, MOST_CELLS = 40, MOST_GAUGES_AT_ONCE = 24;
    private static final int MOST_HELD_LAKES = 3, MOST_DRY_HOLDS = 6;

    private static final int MOST_TOLD = 9999, MOST_READING = 99999, MOST_ROOM = 99999, MOST_RATE = 99;
    private static final int MOST_PROMISED = 9999999, MOST_WINDOW = 60;
    private static final int MOST_POWER = 2000000000, MOST_BOUND = 99999, MOST_SHARP = 1000000;

    private static final int HOLD = 0, RIGHT = 1, HALF = 2, RESERVE = 3, DITCH = 4, ANCIENT = 5;
    private static final int[] UNDER = {NONE, HOLD, HOLD, RIGHT, RIGHT, RESERVE};

    private static final int MAY_PART = 0, CUT_PART = 1;

    // Tokens of a text and steps of its working: a number stands for itself, so these are all below 0.
    private static final int MONTH_NAME = -1, YEAR_NAME = -2, RANK_NAME = -3;
    private static final int LEVEL_NAME = -4, READ_NAME = -5, STATE_NAME = -6;
    private static final int OR = -7, AND = -8, NOT = -9, LESS = -10, LIKE = -11;
    private static final int PLUS = -12, MINUS = -13, TIMES = -14, NEGATE = -15;
    private static final int MAY = -16, CUT = -17, OPEN = -18, CLOSE = -19, STOP = -20, END = -21, WRONG = -22;

    private final Told told;
    private final Flow base;
    private final Flow trial;
    private final Reader reader;
    private final Sheet[] sheets;

    public RiverCompact() {
        told = new Told();
        base = new Flow(told);
        trial = new Flow(told);
        reader = new Reader();
        sheets = new Sheet[SHEETS];
        for (int i = 0; i < SHEETS; i++) {
            sheets[i] = new Sheet();
        }
    }

    // ---- reaches

    public int side(int reach, int monthOfYear, int n) {
        if (!isReach(reach) || !within(monthOfYear, 0, YEAR - 1) || !within(n, 0, MOST_TOLD)) {
            return BAD;
        }
        int at = reach * YEAR + monthOfYear;
        int was = told.sides[at];
        told.sides[at] = n;
        base.stale = true;
        return was;
    }

    public int salt(int reach, int rate) {
        if (!isReach(reach) || !within(rate, 0, MOST_RATE)) {
            return BAD;
        }
        int was = told.rates[reach];
        told.rates[reach] = rate;
        base.stale = true;
        return was;
    }

    public int flood(int reach, int month, int n) {
        if (!isReach(reach) || !isMonth(month) || !within(n, -MOST_TOLD, MOST_TOLD)) {
            return BAD;
        }
        if (told.floodCount >= MOST_FLOODS) {
            return FULL;
        }
        told.floodSums[reach * MONTHS + month] += n;
        base.stale = true;
        return told.floodCount++;
    }

    public int gauge(int reach, int month, int n) {
        if (!isReach(reach) || !isMonth(month) || !within(n, 0, MOST_READING)) {
            return BAD;
        }
        if (told.gaugeCount >= MOST_GAUGES) {
            return FULL;
        }
        told.readings[reach * MONTHS + month] = n;
        base.stale = true;
        return told.gaugeCount++;
    }

    public int read(int reach, int month) {
        if (!isReach(reach) || !isMonth(month)) {
            return BAD;
        }
        return told.readOf(reach, month);
    }

    public int lake(int reach, int room, int level, int surface, int release) {
        if (!isReach(reach) || !within(room, 0, MOST_ROOM) || !within(level, 0, room)
                || !within(surface, 0, MOST_RATE) || !within(release, 0, MOST_TOLD)) {
            return BAD;
        }
        Lake lake = told.lakes[reach];
        int isNew = lake.there ? 0 : 1;
        lake.there = true;
        lake.room = room;
        lake.level = level;
        lake.surface = surface;
        lake.release = release;
        base.stale = true;
        return isNew;
    }

    public int release(int reach, int n) {
        if (!isReach(reach) || !within(n, 0, MOST_TOLD)) {
            return BAD;
        }
        Lake lake = told.lakes[reach];
        if (!lake.there) {
            return NO_LAKE;
        }
        int was = lake.release;
        lake.release = n;
        base.stale = true;
        return was;
    }

    // ---- holds

    public int hold(int kind, int state, int reach, int n, int since) {
        if (!isHoldAsTold(kind, state, reach, n, since)) {
            return BAD;
        }
        if (told.holdCount >= MOST_HOLDS) {
            return FULL;
        }
        told.holds[told.holdCount].become(kind, state, reach, n, since);
        base.stale = true;
        return told.holdCount++;
    }

    public int force(int hold, int from, int to) {
        if (!isHold(hold) || !isSpan(from, to)) {
            return BAD;
        }
        told.holds[hold].from = from;
        told.holds[hold].to = to;
        base.stale = true;
        return to - from;
    }

    public int holdTold(int hold, int what) {
        if (!isHold(hold)) {
            return BAD;
        }
        Hold one = told.holds[hold];
        switch (what) {
            case 0: return one.kind;
            case 1: return one.state;
            case 2: return one.reach;
            case 3: return one.amount;
            case 4: return one.since;
            case 5: return one.rank();
            case 6: return one.backHundredths();
            default: return BAD;
        }
    }

    public int takes(int hold, int month, int what) {
        if (!isHold(hold) || !isMonth(month) || !within(what, 0, 4)) {
            return BAD;
        }
        Hold one = told.holds[hold];
        if (what == 0) {
            return one.asks(month, told.readOf(one.reach, month));
        }
        base.workTo(month + 1);
        int gets = base.holdRows[hold].gets[month];
        switch (what) {
            case 1: return base.holdRows[hold].wants[month];
            case 2: return gets;
            case 3: return one.backOf(gets);
            default: return (base.shut[month] >> hold) & 1;
        }
    }

    public long all(int hold, int from, int to) {
        if (!isHold(hold) || !isSpan(from, to)) {
            return NO;
        }
        base.workTo(to);
        return base.getsOf(hold, from, to);
    }

    public int call(int hold, int month) {
        if (!isHold(hold) || !isMonth(month)) {
            return BAD;
        }
        if (told.callCount >= MOST_CALLS) {
            return FULL;
        }
        told.callers[told.callCount] = hold;
        told.callMonths[told.callCount] = month;
        base.stale = true;
        return told.callCount++;
    }

    public int helps(int call) {
        if (!within(call, 0, told.callCount - 1)) {
            return BAD;
        }
        int caller = told.callers[call];
        int month = told.callMonths[call];
        base.workTo(month + 1);
        trial.begin(call, NONE);
        trial.workTo(month + 1);
        return base.holdRows[caller].gets[month] - trial.holdRows[caller].gets[month];
    }

    // ---- texts

    public int feed(int n, long bytes) {
        if (!within(n, 1, 8)) {
            return BAD;
        }
        if (reader.size > TAPE - n) {
            return FULL;
        }
        for (int i = 0; i < n; i++) {
            reader.tape[reader.size] = (byte) (bytes >>> (8 * i));
            reader.size++;
        }
        return reader.size;
    }

    public int text() {
        if (told.textCount >= MOST_TEXTS) {
            return FULL;
        }
        reader.parse();
        reader.size = 0;
        if (reader.fault != NONE) {
            return FAULTS - reader.fault;
        }
        reader.handOver(told.texts[told.textCount]);
        return told.textCount++;
    }

    public int rule(int state, int text) {
        if (!isState(state) || !isText(text)) {
            return BAD;
        }
        int was = told.textOf[state];
        told.textOf[state] = text;
        base.stale = true;
        return was;
    }

    public long says(int hold, int month, int part) {
        if (!isHold(hold) || !isMonth(month) || !within(part, MAY_PART, CUT_PART)) {
            return NO;
        }
        base.workTo(month + 1);
        int text = told.textOf[told.holds[hold].state];
        told.setNames(hold, month, base.levelsAt(month));
        return told.texts[text].worth(part, told.names, told.stack);
    }

    // ---- months

    public int told(int reach, int month, int what) {
        if (!isReach(reach) || !isMonth(month) || !within(what, 0, 6)) {
            return BAD;
        }
        base.workTo(month + 1);
        ReachRows rows = base.reachRows[reach];
        switch (what) {
            case 0: return told.sideOf(reach, month);
            case 1: return base.returnsOf(reach, month);
            case 2: return rows.comes[month];
            case 3: return rows.water[month];
            case 4: return rows.on[month];
            case 5: return rows.comesSalt[month];
            default: return rows.onSalt[month];
        }
    }

    public int lakeTold(int reach, int month, int what) {
        if (!isReach(reach) || !isMonth(month) || !within(what, 0, 5)) {
            return BAD;
        }
        if (!told.lakes[reach].there) {
            return NO_LAKE;
        }
        base.workTo(month + 1);
        ReachRows rows = base.reachRows[reach];
        switch (what) {
            case 0: return rows.level[month];
            case 1: return base.steamOf(reach, month);
            case 2: return rows.water[month];
            case 3: return base.headOf(reach, month);
            case 4: return base.powerOf(reach, month);
            default: return rows.levelSalt[month];
        }
    }

    public int sharp(int month) {
        if (!isMonth(month)) {
            return BAD;
        }
        base.workTo(month + 1);
        return base.sharpOf(month);
    }

    public long sum(int what) {
        if (!within(what, 0, 7)) {
            return NO;
        }
        base.workTo(MONTHS);
        return base.sumOf(what);
    }

    // ---- promises

    public long owed(int reach, int month, int p, int w) {
        if (!isReach(reach) || !isMonth(month) || !isPromise(p, w)) {
            return NO;
        }
        base.workTo(month + 1);
        return base.owedOf(reach, month, p, w);
    }

    public int breaks(int reach, int p, int w) {
        if (!isReach(reach) || !isPromise(p, w)) {
            return BAD;
        }
        base.workTo(MONTHS);
        for (int month = 0; month < MONTHS; month++) {
            if (base.owedOf(reach, month, p, w) > 0) {
                return month;
            }
        }
        return NONE;
    }

    // ---- if

    public int found(int state, int reach, int n, int since) {
        if (!isHoldAsTold(RESERVE, state, reach, n, since)) {
            return BAD;
        }
        int there = told.holdCount;
        if (there >= MOST_HOLDS) {
            return FULL;
        }
        base.workTo(MONTHS);
        told.holds[there].become(RESERVE, state, reach, n, since);
        told.holdCount = there + 1;
        trial.begin(NONE, NONE);
        trial.workTo(MONTHS);
        told.holdCount = there;
        return whoGetsLess();
    }

    public int sold(int hold, int reach) {
        if (!isHold(hold) || !isReach(reach)) {
            return BAD;
        }
        trySale(hold, reach);
        return whoGetsLess() & ~(1 << hold);
    }

    public long harm(int hold, int reach) {
        if (!isHold(hold) || !isReach(reach)) {
            return NO;
        }
        trySale(hold, reach);
        long less = 0;
        for (int other = 0; other < told.holdCount; other++) {
            if (other != hold) {
                less += base.getsOf(other, 0, MONTHS) - trial.getsOf(other, 0, MONTHS);
            }
        }
        return Math.max(less, 0);
    }

    public long unlike(int first, int second, int state, int year) {
        if (!isText(first) || !isText(second) || !isState(state) || !within(year, 0, YEARS - 1)) {
            return NO;
        }
        return stateGets(first, state, year) - stateGets(second, state, year);
    }

    public long held(int power, int what) {
        if (!within(power, 0, MOST_POWER) || !within(what, 0, 1)) {
            return NO;
        }
        int lakes = told.lakeCount();
        // With more lakes it can't be asked, so whether there is none stays open there.
        if (lakes > MOST_HELD_LAKES) {
            return TOO_MANY_LAKES;
        }
        int best = NONE;
        long least = 0;
        trial.begin(NONE, NONE);
        for (int digits = 0; digits < 1 << (2 * lakes); digits++) {
            trial.setReleases(digits);
            trial.restart();
            trial.workTo(MONTHS);
            long steam = trial.sumOf(3);
            if ((best == NONE || steam < least) && trial.sumOf(7) >= power) {
                best = digits;
                least = steam;
            }
        }
        if (best == NONE) {
            return NO_CHOICE;
        }
        return what == 0 ? best : least;
    }

    public int dry(int holds, int bound) {
        if (!isSetToLeaveDry(holds) || !within(bound, 0, MOST_BOUND)) {
            return BAD;
        }
        base.workTo(MONTHS);
        trial.begin(NONE, NONE);
        int best = NONE;
        long least = 0;
        int set = 0;
        for (int i = 0; i < 1 << Integer.bitCount(holds); i++) {
            long lost = setGets(set);
            if ((best == NONE || lost < least) && trial.staysBelow(set, bound)) {
                best = set;
                least = lost;
            }
            // The borrow runs through the bits that are not told: the next greater set of those that are.
            set = (set - holds) & holds;
        }
        return best;
    }

    public int count(int what) {
        switch (what) {
            case 0: return told.holdCount;
            case 1: return told.lakeCount();
            case 2: return told.floodCount;
            case 3: return told.gaugeCount;
            case 4: return told.callCount;
            case 5: return told.textCount;
            case 6: return reader.size;
            default: return isState(what - 7) ? told.textOf[what - 7] : BAD;
        }
    }

    // ---- the host

    public int sheet(int sheet, int sort, int n) {
        if (!isSheet(sheet) || !within(sort, Sheet.MISSING, Sheet.INTS)) {
            return BAD;
        }
        if (sort == Sheet.MISSING) {
            sheets[sheet].become(Sheet.MISSING, 0);
            return 1;
        }
        if (n > MOST_CELLS) {
            return BAD;
        }
        if (n < 0) {
            return BELOW_ZERO;
        }
        sheets[sheet].become(sort, n);
        return 1;
    }

    public int cell(int sheet, int i, int v) {
        if (!isSheet(sheet)) {
            return BAD;
        }
        Sheet row = sheets[sheet];
        if (row.sort == Sheet.MISSING) {
            return NOTHING;
        }
        if (!row.has(i)) {
            return OUTSIDE;
        }
        row.put(i, v);
        return 1;
    }

    public int copy(int sheet, int i, int other, int j, int n) {
        if (!isSheet(sheet) || !isSheet(other)) {
            return BAD;
        }
        Sheet source = sheets[sheet];
        Sheet target = sheets[other];
        if (source.sort == Sheet.MISSING || target.sort == Sheet.MISSING) {
            return NOTHING;
        }
        if (source.sort != target.sort) {
            return OTHER_SORT;
        }
        if (!source.hasRun(i, n) || !target.hasRun(j, n)) {
            return OUTSIDE;
        }
        System.arraycopy(source.cells, i, target.cells, j, n);
        return n;
    }

    public int gauges(int reach, int month, int sheet, int sort, int from, int n) {
        if (!isReach(reach) || !isMonth(month) || !isSheet(sheet)
                || !within(sort, Sheet.BYTES, Sheet.INTS) || !within(n, 0, MOST_GAUGES_AT_ONCE)) {
            return BAD;
        }
        Sheet row = sheets[sheet];
        if (row.sort != Sheet.MISSING && row.sort != sort) {
            return OTHER_SORT;
        }
        if (row.sort == Sheet.MISSING) {
            return NOTHING;
        }
        int came = 0;
        for (int k = 0; k < n; k++) {
            if (!row.has(from + k)) {
                return OUTSIDE;
            }
            if (gauge(reach, month + k, row.cells[from + k]) >= 0) {
                came++;
            }
        }
        return came;
    }

    public int taken(int hold, int k) {
        if (!within(k, HOLD, ANCIENT)) {
            return BAD;
        }
        if (!isHold(hold)) {
            return NOTHING;
        }
        return told.holds[hold].isOf(k) ? told.holds[hold].amount : OTHER_SORT;
    }

    // ---- what a number must be

    private static boolean within(int n, int least, int most) {
        return n >= least && n <= most;
    }

    private static boolean isReach(int reach) {
        return within(reach, 0, REACHES - 1);
    }

    private static boolean isMonth(int month) {
        return within(month, 0, MONTHS - 1);
    }

    private static boolean isSpan(int from, int to) {
        return within(from, 0, MONTHS) && within(to, from, MONTHS);
    }

    private static boolean isState(int state) {
        return within(state, 0, STATES - 1);
    }

    private static boolean isPromise(int p, int w) {
        return within(p, 0, MOST_PROMISED) && within(w, 1, MOST_WINDOW);
    }

    private static boolean isSheet(int sheet) {
        return within(sheet, 0, SHEETS - 1);
    }

    private static boolean isHoldAsTold(int kind, int state, int reach, int n, int since) {
        return within(kind, HOLD, ANCIENT) && isState(state) && isReach(reach)
                && within(n, 0, kind == HALF ? 100 : MOST_TOLD) && within(since, 0, MOST_TOLD);
    }

    private boolean isHold(int hold) {
        return within(hold, 0, told.holdCount - 1);
    }

    private boolean isText(int text) {
        return within(text, 0, told.textCount - 1);
    }

    private boolean isSetToLeaveDry(int holds) {
        return within(holds, 0, (1 << told.holdCount) - 1) && Integer.bitCount(holds) <= MOST_DRY_HOLDS;
    }

    // ---- what would be

    /** Works the trial with one hold at another reach; the base must be worked first, as it reads the same holds. */
    private void trySale(int hold, int reach) {
        base.workTo(MONTHS);
        Hold one = told.holds[hold];
        int own = one.reach;
        one.reach = reach;
        trial.begin(NONE, NONE);
        trial.workTo(MONTHS);
        one.reach = own;
    }

    private int whoGetsLess() {
        int who = 0;
        for (int hold = 0; hold < told.holdCount; hold++) {
            if (trial.getsOf(hold, 0, MONTHS) < base.getsOf(hold, 0, MONTHS)) {
                who |= 1 << hold;
            }
        }
        return who;
    }

    private long stateGets(int text, int state, int year) {
        int from = year * YEAR;
        trial.begin(NONE, text);
        trial.workTo(from + YEAR);
        long gets = 0;
        for (int hold = 0; hold < told.holdCount; hold++) {
            if (told.holds[hold].state == state) {
                gets += trial.getsOf(hold, from, from + YEAR);
            }
        }
        return gets;
    }

    private long setGets(int set) {
        long gets = 0;
        for (int hold = 0; hold < told.holdCount; hold++) {
            if (((set >> hold) & 1) == 1) {
                gets += base.getsOf(hold, 0, MONTHS);
            }
        }
        return gets;
    }

    /** What is told of one hold, and what its kind makes of it. */
    private static final class Hold {
        int kind, state, reach, amount, since, from, to;

        void become(int kind, int state, int reach, int amount, int since) {
            this.kind = kind;
            this.state = state;
            this.reach = reach;
            this.amount = amount;
            this.since = since;
            from = 0;
            to = MONTHS;
        }

        boolean isInForce(int month) {
            return month >= from && month < to;
        }

        int asks(int month, int reading) {
            int ofYear = month % YEAR;
            int asRight = within(ofYear, 3, 8) ? amount : 0;
            switch (kind) {
                case RIGHT: return asRight;
                case HALF: return amount * reading / 100;
                case DITCH: return asRight + asRight / 10;
                case ANCIENT: return within(ofYear, 6, 7) ? amount + amount / 2 : amount;
                default: return amount;
            }
        }

        int rank() {
            switch (kind) {
                case HALF: return 0;
                case RESERVE: return since - 1000;
                case DITCH: return since + 1;
                case ANCIENT: return since - 2000;
                default: return since;
            }
        }

        int backHundredths() {
            switch (kind) {
                case RIGHT: return 40;
                case HALF: return 20;
                case RESERVE: return 50;
                case DITCH: return 20;
                case ANCIENT: return 50;
                default: return 0;
            }
        }

        int backOf(int gets) {
            return gets * backHundredths() / 100;
        }

        /** Whether it is of a kind, or of one under that, also by others between. */
        boolean isOf(int wanted) {
            int its = kind;
            for (int i = 0; i < UNDER.length && within(its, 0, UNDER.length - 1); i++) {
                if (its == wanted) {
                    return true;
                }
                its = UNDER[its];
            }
            return false;
        }
    }

    /** What is told of the lake at one reach, if there is one. */
    private static final class Lake {
        boolean there;
        int room, level, surface, release;
    }

    /** One text's two parts as steps over a stack. */
    private static final class Text {
        final int[] steps = new int[TAPE];
        int mayEnd, cutEnd;
        boolean usesLevel;

        /** What a part comes to; the stack must have a place for each byte of a text. */
        int worth(int part, int[] names, int[] stack) {
            int end = part == MAY_PART ? mayEnd : cutEnd;
            int top = 0;
            stack[0] = 0;
            for (int i = part == MAY_PART ? 0 : mayEnd; i < end; i++) {
                int step = steps[i];
                if (step >= 0 && top < stack.length) {
                    stack[top++] = step;
                } else if (step >= STATE_NAME && top < stack.length) {
                    stack[top++] = names[-1 - step];
                } else if (step == NOT && top > 0) {
                    stack[top - 1] = stack[top - 1] == 0 ? 1 : 0;
                } else if (step == NEGATE && top > 0) {
                    stack[top - 1] = -stack[top - 1];
                } else if (top > 1) {
                    top--;
                    stack[top - 1] = joined(step, stack[top - 1], stack[top]);
                }
            }
            return stack[0];
        }

        private static int joined(int step, int left, int right) {
            switch (step) {
                case OR: return left != 0 || right != 0 ? 1 : 0;
                case AND: return left != 0 && right != 0 ? 1 : 0;
                case LESS: return left < right ? 1 : 0;
                case LIKE: return left == right ? 1 : 0;
                case PLUS: return left + right;
                case MINUS: return left - right;
                default: return left * right;
            }
        }
    }

    /** The tape, and how a text is read from it. */
    private static final class Reader {
        final byte[] tape = new byte[TAPE];
        int size;
        int fault;

        private final int[] tokens = new int[TAPE + 1];
        private final int[] places = new int[TAPE + 1];
        private int next;
        private int open;

        private final int[] steps = new int[TAPE];
        private int used;
        private int mayEnd;
        private boolean usesLevel;

        /** Reads the tape as a text; fault is then NONE or its place. */
        void parse() {
            findTokens();
            next = 0;
            open = 0;
            used = 0;
            usesLevel = false;
            fault = NONE;
            expect(MAY);
            parseOr();
            expect(STOP);
            mayEnd = used;
            expect(CUT);
            parseOr();
            expect(STOP);
            expect(END);
        }

        void handOver(Text text) {
            System.arraycopy(steps, 0, text.steps, 0, used);
            text.mayEnd = mayEnd;
            text.cutEnd = used;
            text.usesLevel = usesLevel;
        }

        private void findTokens() {
            int found = 0;
            int place = 0;
            // Each step takes a byte at least, so the tape ends within as many steps as it has bytes.
            for (int step = 0; step < TAPE && place < size; step++) {
                int length = lengthAt(place);
                if (tape[place] != ' ' && tape[place] != '\n') {
                    tokens[found] = tokenAt(place, place + length);
                    places[found] = place;
                    found++;
                }
                place += length;
            }
            tokens[found] = END;
            places[found] = size;
        }

        /** How many bytes belong together from a place on: letters, digits, or one byte. */
        private int lengthAt(int place) {
            int end = place + 1;
            if (isLetter(tape[place])) {
                while (end < size && isLetter(tape[end])) {
                    end++;
                }
            } else if (isDigit(tape[place])) {
                while (end < size && isDigit(tape[end])) {
                    end++;
                }
            }
            return end - place;
        }

        private int tokenAt(int from, int to) {
            if (isLetter(tape[from])) {
                return wordAt(from, to);
            }
            if (isDigit(tape[from])) {
                return numberAt(from, to);
            }
            switch (tape[from]) {
                case '(': return OPEN;
                case ')': return CLOSE;
                case ';': return STOP;
                case '+': return PLUS;
                case '-': return MINUS;
                case '*': return TIMES;
                case '<': return LESS;
                case '=': return LIKE;
                default: return WRONG;
            }
        }

        private int wordAt(int from, int to) {
            if (isWord("month", from, to)) return MONTH_NAME;
            if (isWord("year", from, to)) return YEAR_NAME;
            if (isWord("rank", from, to)) return RANK_NAME;
            if (isWord("level", from, to)) return LEVEL_NAME;
            if (isWord("read", from, to)) return READ_NAME;
            if (isWord("state", from, to)) return STATE_NAME;
            if (isWord("may", from, to)) return MAY;
            if (isWord("cut", from, to)) return CUT;
            if (isWord("or", from, to)) return OR;
            if (isWord("and", from, to)) return AND;
            if (isWord("not", from, to)) return NOT;
            return WRONG;
        }

        private boolean isWord(String word, int from, int to) {
            if (word.length() != to - from) {
                return false;
            }
            for (int i = 0; i < word.length(); i++) {
                if (word.charAt(i) != tape[from + i]) {
                    return false;
                }
            }
            return true;
        }

        private int numberAt(int from, int to) {
            if (to - from > 4) {
                return WRONG;
            }
            int number = 0;
            for (int i = from; i < to; i++) {
                number = number * 10 + tape[i] - '0';
            }
            return number;
        }

        private static boolean isLetter(int c) {
            return within(c, 'a', 'z');
        }

        private static boolean isDigit(int c) {
            return within(c, '0', '9');
        }

        /** The token that comes next; behind a fault none does, so that no rule goes on there. */
        private int peek() {
            return fault == NONE ? tokens[next] : WRONG;
        }

        private boolean accept(int token) {
            if (peek() != token) {
                return false;
            }
            if (token != END) {
                next++;
            }
            return true;
        }

        private void expect(int token) {
            if (!accept(token)) {
                fail();
            }
        }

        private void fail() {
            if (fault == NONE) {
                fault = places[next];
            }
        }

        private void write(int step) {
            if (fault == NONE && used < TAPE) {
                steps[used] = step;
                used++;
                usesLevel = usesLevel || step == LEVEL_NAME;
            }
        }

        /** Goes into a bracket, a not or a minus, if not too many are open: that keeps the rules' depth low. */
        private boolean enter(int token) {
            if (open >= MOST_OPEN) {
                fail();
                return false;
            }
            open++;
            return accept(token);
        }

        private void parseOr() {
            parseAnd();
            for (int i = 0; i < TAPE && accept(OR); i++) {
                parseAnd();
                write(OR);
            }
        }

        private void parseAnd() {
            parseNot();
            for (int i = 0; i < TAPE && accept(AND); i++) {
                parseNot();
                write(AND);
            }
        }

        private void parseNot() {
            if (peek() == NOT) {
                if (enter(NOT)) {
                    parseNot();
                    open--;
                    write(NOT);
                }
                return;
            }
            parseSum();
            int sign = peek();
            if (sign == LESS || sign == LIKE) {
                accept(sign);
                parseSum();
                write(sign);
            }
        }

        private void parseSum() {
            parseTerm();
            int sign = peek();
            for (int i = 0; i < TAPE && (sign == PLUS || sign == MINUS); i++) {
                accept(sign);
                parseTerm();
                write(sign);
                sign = peek();
            }
        }

        private void parseTerm() {
            parseOne();
            for (int i = 0; i < TAPE && accept(TIMES); i++) {
                parseOne();
                write(TIMES);
            }
        }

        private void parseOne() {
            int token = peek();
            if (token >= STATE_NAME) {
                accept(token);
                write(token);
            } else if (token == MINUS) {
                if (enter(MINUS)) {
                    parseOne();
                    open--;
                    write(NEGATE);
                }
            } else if (token == OPEN) {
                if (enter(OPEN)) {
                    parseOr();
                    expect(CLOSE);
                    open--;
                }
            } else {
                fail();
            }
        }
    }

    /** All that is told, and nothing that must be worked out month by month. */
    private static final class Told {
        final int[] sides = new int[REACHES * YEAR];
        final int[] rates = new int[REACHES];
        final int[] floodSums = new int[REACHES * MONTHS];
        int floodCount;
        final int[] readings = new int[REACHES * MONTHS];
        int gaugeCount;
        final Lake[] lakes = new Lake[REACHES];
        final Hold[] holds = new Hold[MOST_HOLDS];
        int holdCount;
        final int[] callers = new int[MOST_CALLS];
        final int[] callMonths = new int[MOST_CALLS];
        int callCount;
        final Text[] texts = new Text[MOST_TEXTS];
        int textCount;
        final int[] textOf = new int[STATES];
        final int[] names = new int[-STATE_NAME];
        final int[] stack = new int[TAPE];

        Told() {
            Arrays.fill(readings, NONE);
            for (int i = 0; i < REACHES; i++) {
                lakes[i] = new Lake();
            }
            for (int i = 0; i < MOST_HOLDS; i++) {
                holds[i] = new Hold();
            }
            for (int i = 0; i < MOST_TEXTS; i++) {
                texts[i] = new Text();
            }
            // may 1 ; cut 0 ;
            texts[0].steps[0] = 1;
            texts[0].steps[1] = 0;
            texts[0].mayEnd = 1;
            texts[0].cutEnd = 2;
            textCount = 1;
        }

        int sideOf(int reach, int month) {
            return Math.max(sides[reach * YEAR + month % YEAR] + floodSums[reach * MONTHS + month], 0);
        }

        int readOf(int reach, int month) {
            for (int r = reach; r >= 0; r--) {
                int reading = readings[r * MONTHS + month];
                if (reading != NONE) {
                    return reading;
                }
            }
            return 0;
        }

        int lakeCount() {
            int lakeCount = 0;
            for (int reach = 0; reach < REACHES; reach++) {
                if (lakes[reach].there) {
                    lakeCount++;
                }
            }
            return lakeCount;
        }

        /** The bits of the holds that calls shut in a month, one call left out (or NONE). */
        int shutIn(int month, int leftOut) {
            int shut = 0;
            for (int c = 0; c < callCount; c++) {
                if (c != leftOut && callMonths[c] == month) {
                    shut |= shutBy(holds[callers[c]]);
                }
            }
            return shut;
        }

        private int shutBy(Hold caller) {
            int shut = 0;
            for (int h = 0; h < holdCount; h++) {
                if (holds[h].reach <= caller.reach && holds[h].rank() > caller.rank()) {
                    shut |= 1 << h;
                }
            }
            return shut;
        }

        boolean isAhead(int hold, int other) {
            Hold one = holds[hold];
            Hold two = holds[other];
            return one.reach != two.reach ? one.reach < two.reach : one.rank() < two.rank();
        }

        void setNames(int hold, int month, int levels) {
            Hold one = holds[hold];
            names[-1 - MONTH_NAME] = month % YEAR;
            names[-1 - YEAR_NAME] = month / YEAR;
            names[-1 - RANK_NAME] = one.rank();
            names[-1 - LEVEL_NAME] = levels;
            names[-1 - READ_NAME] = readOf(one.reach, month);
            names[-1 - STATE_NAME] = one.state;
        }

        /** What a hold in force and not shut wants in a month by a text. */
        int wantsBy(Text text, int hold, int month, int levels) {
            setNames(hold, month, levels);
            if (text.worth(MAY_PART, names, stack) == 0) {
                return 0;
            }
            int cut = Math.max(0, Math.min(text.worth(CUT_PART, names, stack), 100));
            int asks = holds[hold].asks(month, names[-1 - READ_NAME]);
            return asks - asks * cut / 100;
        }
    }

    /** What the months come to at one reach. */
    private static final class ReachRows {
        final int[] comes = new int[MONTHS];
        final int[] comesSalt = new int[MONTHS];
        final int[] water = new int[MONTHS];
        final int[] on = new int[MONTHS];
        final int[] onSalt = new int[MONTHS];
        final int[] back = new int[MONTHS];
        final int[] backSalt = new int[MONTHS];
        // As a month begins, so one more for what is left behind the last.
        final int[] level = new int[MONTHS + 1];
        final int[] levelSalt = new int[MONTHS + 1];
    }

    /** What the months come to for one hold. */
    private static final class HoldRows {
        static final int BY_LEVEL = -1;

        // What it wants as far as no lake's level is asked, else BY_LEVEL.
        final int[] ready = new int[MONTHS];
        final int[] wants = new int[MONTHS];
        final int[] gets = new int[MONTHS];
    }

    /** The months, worked out one behind the other from what is told and from what a trial changes of it. */
    private static final class Flow {
        private final Told told;
        final ReachRows[] reachRows = new ReachRows[REACHES];
        final HoldRows[] holdRows = new HoldRows[MOST_HOLDS];
        final int[] shut = new int[MONTHS];
        boolean stale = true;

        private final int[] order = new int[MOST_HOLDS];
        private final int[] releases = new int[REACHES];
        private int leftOutCall;
        private int oneText;
        private int dryHolds;
        private int readyMonths;
        private int doneMonths;
        private int left;
        private int leftSalt;

        Flow(Told told) {
            this.told = told;
            for (int i = 0; i < REACHES; i++) {
                reachRows[i] = new ReachRows();
            }
            for (int i = 0; i < MOST_HOLDS; i++) {
                holdRows[i] = new HoldRows();
            }
        }

        /** Begins anew, without a call and with one text for all states (or NONE of either). */
        void begin(int withoutCall, int textOfAll) {
            leftOutCall = withoutCall;
            oneText = textOfAll;
            dryHolds = 0;
            sortHolds();
            for (int reach = 0; reach < REACHES; reach++) {
                releases[reach] = told.lakes[reach].release;
            }
            readyMonths = 0;
            stale = false;
            restart();
        }

        /** Goes back to month 0, with what the holds want apart from levels as it was. */
        void restart() {
            doneMonths = 0;
            for (int reach = 0; reach < REACHES; reach++) {
                reachRows[reach].level[0] = told.lakes[reach].level;
                reachRows[reach].levelSalt[0] = 0;
            }
        }

        void workTo(int months) {
            if (stale) {
                begin(NONE, NONE);
            }
            for (int month = doneMonths; month < months && month < MONTHS; month++) {
                if (month >= readyMonths) {
                    readyMonth(month);
                }
                settleWants(month);
                passWater(month);
                doneMonths = month + 1;
            }
        }

        /** Digits to the base 4, the lake of the least reach the highest: release 0, half, as it is, twice. */
        void setReleases(int digits) {
            int rest = digits;
            for (int reach = REACHES - 1; reach >= 0; reach--) {
                Lake lake = told.lakes[reach];
                if (lake.there) {
                    releases[reach] = releaseBy(rest & 3, lake.release);
                    rest >>= 2;
                }
            }
        }

        private static int releaseBy(int digit, int release) {
            switch (digit) {
                case 0: return 0;
                case 1: return release / 2;
                case 2: return release;
                default: return 2 * release;
            }
        }

        /** Whether the water over the border is at most so sharp in all months if a set of holds is left dry. */
        boolean staysBelow(int set, int bound) {
            dryHolds = set;
            restart();
            for (int month = 0; month < MONTHS; month++) {
                workTo(month + 1);
                if (sharpOf(month) > bound) {
                    return false;
                }
            }
            return true;
        }

        private void sortHolds() {
            for (int hold = 0; hold < told.holdCount; hold++) {
                int place = hold;
                while (place > 0 && told.isAhead(hold, order[place - 1])) {
                    order[place] = order[place - 1];
                    place--;
                }
                order[place] = hold;
            }
        }

        private void passWater(int month) {
            int next = 0;
            for (int reach = 0; reach < REACHES; reach++) {
                gather(reach, month);
                passLake(reach, month);
                next = serve(reach, month, next);
            }
        }

        private void readyMonth(int month) {
            shut[month] = told.shutIn(month, leftOutCall);
            for (int hold = 0; hold < told.holdCount; hold++) {
                int wants = 0;
                if (told.holds[hold].isInForce(month) && ((shut[month] >> hold) & 1) == 0) {
                    Text text = textFor(hold);
                    wants = text.usesLevel ? HoldRows.BY_LEVEL : told.wantsBy(text, hold, month, 0);
                }
                holdRows[hold].ready[month] = wants;
            }
            readyMonths = month + 1;
        }

        private Text textFor(int hold) {
            return told.texts[oneText != NONE ? oneText : told.textOf[told.holds[hold].state]];
        }

        private void settleWants(int month) {
            int levels = levelsAt(month);
            for (int hold = 0; hold < told.holdCount; hold++) {
                int wants = holdRows[hold].ready[month];
                if (((dryHolds >> hold) & 1) == 1) {
                    wants = 0;
                } else if (wants == HoldRows.BY_LEVEL) {
                    wants = told.wantsBy(textFor(hold), hold, month, levels);
                }
                holdRows[hold].wants[month] = wants;
            }
        }

        private void gather(int reach, int month) {
            int side = told.sideOf(reach, month);
            left = side + returnsOf(reach, month);
            leftSalt = side * told.rates[reach] / 1000;
            if (reach > 0) {
                ReachRows above = reachRows[reach - 1];
                left += above.on[month];
                leftSalt += above.onSalt[month];
                if (month > 0) {
                    leftSalt += above.backSalt[month - 1];
                }
            }
            reachRows[reach].comes[month] = left;
            reachRows[reach].comesSalt[month] = leftSalt;
        }

        private void passLake(int reach, int month) {
            ReachRows rows = reachRows[reach];
            if (told.lakes[reach].there) {
                int inIt = rows.level[month] - steamOf(reach, month) + left;
                int saltInIt = rows.levelSalt[month] + leftSalt;
                int out = Math.max(Math.min(releases[reach], inIt), inIt - told.lakes[reach].room);
                int outSalt = share(saltInIt, out, inIt);
                rows.level[month + 1] = inIt - out;
                rows.levelSalt[month + 1] = saltInIt - outSalt;
                left = out;
                leftSalt = outSalt;
            }
            rows.water[month] = left;
        }

        /** Lets the holds of a reach take, from a place in the order on: the place of the next reach's first. */
        private int serve(int reach, int month, int first) {
            ReachRows rows = reachRows[reach];
            int back = 0;
            int backSalt = 0;
            int next = first;
            while (next < told.holdCount && told.holds[order[next]].reach == reach) {
                int hold = order[next];
                int gets = Math.min(holdRows[hold].wants[month], left);
                int took = share(leftSalt, gets, left);
                holdRows[hold].gets[month] = gets;
                left -= gets;
                leftSalt -= took;
                back += told.holds[hold].backOf(gets);
                backSalt += took + gets / 50;
                next++;
            }
            rows.back[month] = back;
            rows.backSalt[month] = backSalt;
            rows.on[month] = left;
            rows.onSalt[month] = leftSalt;
            return next;
        }

        private static int share(int salt, int part, int whole) {
            return whole == 0 ? 0 : (int) ((long) salt * part / whole);
        }

        int levelsAt(int month) {
            int levels = 0;
            for (int reach = 0; reach < REACHES; reach++) {
                if (told.lakes[reach].there) {
                    levels += reachRows[reach].level[month];
                }
            }
            return levels;
        }

        int returnsOf(int reach, int month) {
            return reach > 0 && month > 0 ? reachRows[reach - 1].back[month - 1] : 0;
        }

        int steamOf(int reach, int month) {
            Lake lake = told.lakes[reach];
            return lake.there ? reachRows[reach].level[month] * lake.surface / 1000 : 0;
        }

        int headOf(int reach, int month) {
            return told.lakes[reach].there ? reachRows[reach].level[month] / 100 : 0;
        }

        int powerOf(int reach, int month) {
            return headOf(reach, month) * reachRows[reach].water[month];
        }

        int sharpOf(int month) {
            int on = reachRows[BORDER].on[month];
            if (on == 0) {
                return 0;
            }
            return (int) Math.min(reachRows[BORDER].onSalt[month] * 1000L / on, MOST_SHARP);
        }

        long getsOf(int hold, int from, int to) {
            long gets = 0;
            for (int month = from; month < to; month++) {
                gets += holdRows[hold].gets[month];
            }
            return gets;
        }

        long owedOf(int reach, int month, int p, int w) {
            if (month < w - 1) {
                return 0;
            }
            long owed = p;
            for (int m = month - w + 1; m <= month; m++) {
                owed -= reachRows[reach].on[m];
            }
            return Math.max(owed, 0);
        }

        long sumOf(int what) {
            long sum = 0;
            for (int reach = 0; reach < REACHES; reach++) {
                for (int month = 0; month < MONTHS; month++) {
                    sum += partOf(what, reach, month);
                }
            }
            return sum;
        }

        private int partOf(int what, int reach, int month) {
            ReachRows rows = reachRows[reach];
            switch (what) {
                case 0: return reach == BORDER ? rows.on[month] : 0;
                case 1: return told.sideOf(reach, month);
                case 2: return rows.water[month] - rows.on[month];
                case 3: return steamOf(reach, month);
                case 4: return returnsOf(reach, month);
                case 5: return reach == BORDER ? rows.back[month] : 0;
                case 6: return reach != BORDER && month == MONTHS - 1 ? rows.back[month] : 0;
                default: return powerOf(reach, month);
            }
        }
    }

    /** A row of numbers of a sort, or a missing one. */
    private static final class Sheet {
        static final int MISSING = -1, BYTES = 0, SHORTS = 1, INTS = 2;

        final int[] cells = new int[MOST_CELLS];
        int sort = MISSING;
        int size;

        void become(int sort, int size) {
            this.sort = sort;
            this.size = size;
            Arrays.fill(cells, 0);
        }

        boolean has(int i) {
            return i >= 0 && i < size;
        }

        boolean hasRun(int i, int n) {
            return i >= 0 && n >= 0 && i <= size && n <= size - i;
        }

        void put(int i, int v) {
            if (sort == BYTES) {
                cells[i] = (byte) v;
            } else if (sort == SHORTS) {
                cells[i] = (short) v;
            } else {
                cells[i] = v;
            }
        }
    }
}
