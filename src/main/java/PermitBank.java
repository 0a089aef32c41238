/** Years with permits that may be kept, measures, prices by groups of years, and what would be: see README.md. */
public final class PermitBank {
    public static final int NONE = -1, BAD = -2, STATE = -3, FULL = -4;
    public static final long NO = Long.MIN_VALUE;

    private static final int NOTHING = -11, CAST = -12, PLACE = -13, SIZE = -14;
    /** The answer where nothing is found, or nothing is otherwise. */
    private static final int NOT_THERE = -5;
    /** What a judgement adds to how many were looked at, when the row ended too early. */
    private static final int RAN_OUT = 100;
    /** What read answers for a fault at place 0. */
    private static final int FAULTY = -10;

    private static final int YEARS = 5, MEASURES = 10, TOP_PRICE = 20, SHORT_COST = 20;
    private static final int CAP = 0, EMISSION = 1, COST = 2, MUCH = 3;
    private static final int FLOOR = 0, CEILING = 1, STOCK = 2, LIMIT = 3;
    /** The least and the greatest CAP, EMISSION, COST, MUCH. */
    private static final int[] LEAST = {0, 0, 1, 1};
    private static final int[] MOST = {20, 40, 20, 9};
    private static final int[] MOST_SETTING = {20, 20, 20, 5};

    private static final int SEEN_ROWS = 5, EVENT_ROWS = 8, BOOK_ROWS = 8;
    private static final int CAP_GONE = 0, EMISSION_UP = 1, LIMIT_SET = 2, FLOOR_SET = 3;
    private static final int EMISSION_STEP = 5;
    private static final int SHOCK_SPAN = 9, FIT_STEP = 2, FIT_MOST = 20, ODDS_CASES = 10;

    private static final int TEXT_SIGNS = 100, CLAUSES = 14, TOP_SIGN = 127;
    private static final int TAPES = 6, TAPE_ITEMS = 60;
    private static final int NO_ROW = -1, BYTES = 0, SHORTS = 1, INTS = 2, LONGS = 3, BOOLEANS = 4;
    /** Far above the permits that can be moved in one working out (220 or so). */
    private static final int STEPS = 10000;

    private final State state = new State();
    private final State kept = new State();
    private boolean imageTaken = false;
    private final Plan plan = new Plan();
    private boolean planIsFresh = false;
    private final SetUp trial = new SetUp();
    private final Plan trialPlan = new Plan();
    private final Script script = new Script();
    private final Tape[] tapes = new Tape[TAPES];

    public PermitBank() {
        for (int t = 0; t < TAPES; t++) {
            tapes[t] = new Tape();
        }
    }

    // ---- years, measures

    public int year(int cap, int emission) {
        planIsFresh = false;
        return state.setUp.addYear(cap, emission);
    }

    public int measure(int year, int cost, int much) {
        planIsFresh = false;
        return state.setUp.addMeasure(year, cost, much);
    }

    public int renew(int what, int k, int v) {
        planIsFresh = false;
        return state.setUp.change(what, k, v);
    }

    public int set(int what, int v) {
        planIsFresh = false;
        return state.setUp.adjust(what, v);
    }

    public int feed(int sign) {
        return script.append(sign);
    }

    public int read() {
        boolean sound = script.scan();
        int answer = FAULTY - script.place;
        if (sound) {
            planIsFresh = false;
            answer = script.perform(state.setUp);
        }
        script.empty();
        return answer;
    }

    // ---- as it is worked out

    public int of(int year, int what) {
        SetUp s = state.setUp;
        if (!s.hasYear(year)) {
            return NONE;
        }
        Plan now = workedOut();
        switch (what) {
            case 0: return s.caps[year];
            case 1: return s.emissions[year];
            case 2: return now.permits[year];
            case 3: return now.groupOf[year];
            case 4: return now.priceOfYear(year);
            case 5: return now.used[year];
            case 6: return now.banks[year];
            case 7: return now.borrowed[year];
            case 8: return s.measuresOf(year);
            default: return NONE;
        }
    }

    public int about(int measure, int what) {
        SetUp s = state.setUp;
        if (!s.hasMeasure(measure)) {
            return NONE;
        }
        switch (what) {
            case 0: return s.owners[measure];
            case 1: return s.costs[measure];
            case 2: return s.muches[measure];
            case 3: return workedOut().done[measure];
            default: return NONE;
        }
    }

    public int at(int year, int p, int what) {
        if (!state.setUp.hasYear(year) || !within(what, 0, 1)) {
            return NONE;
        }
        if (!within(p, 0, TOP_PRICE)) {
            return BAD;
        }
        Demand demand = workedOut().demand;
        return what == 0 ? demand.highOf(year, year, p) : demand.lowOf(year, year, p);
    }

    public int group(int group, int what) {
        Plan now = workedOut();
        Groups g = now.groups;
        if (!within(group, 0, g.size - 1)) {
            return NONE;
        }
        switch (what) {
            case 0: return g.firsts[group];
            case 1: return g.lasts[group];
            case 2: return g.prices[group];
            case 3: return now.sumOver(now.permits, group);
            case 4: return now.shorts[group];
            case 5: return now.sumOver(now.used, group);
            default: return NONE;
        }
    }

    public int told(int what) {
        SetUp s = state.setUp;
        Plan now = workedOut();
        switch (what) {
            case 0: return s.years;
            case 1: return s.measures;
            case 2: return s.settings[FLOOR];
            case 3: return s.settings[CEILING];
            case 4: return s.settings[STOCK];
            case 5: return s.settings[LIMIT];
            case 6: return now.groups.size;
            case 7: return now.reserve;
            case 8: return now.taken;
            case 9: return now.given;
            case 10: return now.lent;
            case 11: return now.allShorts();
            case 12: return now.unlikePrices();
            default: return NONE;
        }
    }

    public long total() {
        return workedOut().cost;
    }

    public int alone(int year) {
        SetUp s = state.setUp;
        if (!s.hasYear(year)) {
            return NONE;
        }
        return workedOut().demand.priceFor(year, year, s.caps[year]);
    }

    // ---- ways, ranks

    public int way(int from, int to) {
        SetUp s = state.setUp;
        if (!s.hasYear(from) || !s.hasYear(to)) {
            return NONE;
        }
        return workedOut().flows[from][to];
    }

    public int ways(int k, int what) {
        Plan now = workedOut();
        if (k == -1) {
            return now.flowCount();
        }
        if (k < -1 || !within(what, 0, 2)) {
            return NONE;
        }
        return now.flowPart(k, what);
    }

    public int rank(int k) {
        SetUp s = state.setUp;
        Plan now = workedOut();
        for (int m = 0; m < s.measures; m++) {
            if (now.rankOf(s, m) == k) {
                return m;
            }
        }
        return NONE;
    }

    public int merit(int year, int k) {
        SetUp s = state.setUp;
        if (!s.hasYear(year) || k < 0) {
            return NONE;
        }
        return s.byMerit(year, k);
    }

    // ---- what would be

    public long more(int year) {
        SetUp s = state.setUp;
        if (!s.hasYear(year) || s.caps[year] >= MOST[CAP]) {
            return NO;
        }
        startTrial();
        trial.caps[year]++;
        return tried().cost - workedOut().cost;
    }

    public long shock(int year, int by, int n) {
        SetUp s = state.setUp;
        if (!s.hasYear(year) || !s.hasYear(by) || !within(n, -SHOCK_SPAN, SHOCK_SPAN)) {
            return NO;
        }
        startTrial();
        trial.emissions[by] = Math.max(0, trial.emissions[by] + n);
        return tried().priceOfYear(year) - workedOut().priceOfYear(year);
    }

    // ---- seen, odds

    public int see(int year, int price) {
        return pricedRow(state.seen, year, price);
    }

    public int fits(int year, int what) {
        if (!state.setUp.hasYear(year) || !within(what, 0, 1)) {
            return NONE;
        }
        int fitting = 0;
        int least = NOT_THERE;
        startTrial();
        for (int emission = 0; emission <= FIT_MOST; emission += FIT_STEP) {
            trial.emissions[year] = emission;
            if (tried().firstOtherwise(state.seen) == NOT_THERE) {
                least = fitting == 0 ? emission : least;
                fitting++;
            }
        }
        return what == 0 ? fitting : least;
    }

    public long odds(int year, int part) {
        if (!state.setUp.hasYear(year) || !within(part, 0, 1)) {
            return NO;
        }
        int above = 0;
        startTrial();
        for (int cap = 0; cap < ODDS_CASES; cap++) {
            trial.caps[year] = cap;
            if (tried().priceOfYear(year) > trial.settings[CEILING]) {
                above++;
            }
        }
        return lowestTerms(above, ODDS_CASES, part);
    }

    public long mean(int part) {
        int years = state.setUp.years;
        if (years == 0 || !within(part, 0, 1)) {
            return NO;
        }
        Plan now = workedOut();
        int sum = 0;
        for (int y = 0; y < years; y++) {
            sum += now.priceOfYear(y);
        }
        return lowestTerms(sum, years, part);
    }

    // ---- events, books

    public int event(int what, int n) {
        if (what == -1) {
            return state.events.empty();
        }
        if (!within(what, CAP_GONE, FLOOR_SET)) {
            return NONE;
        }
        if (what <= EMISSION_UP && !state.setUp.hasYear(n)) {
            return NONE;
        }
        if (what == LIMIT_SET && !within(n, 0, MOST_SETTING[LIMIT])) {
            return BAD;
        }
        if (what == FLOOR_SET && !within(n, 0, MOST_SETTING[FLOOR])) {
            return BAD;
        }
        return state.events.append(what, n);
    }

    public long after(int what) {
        if (!within(what, 0, 2)) {
            return NO;
        }
        startTrial();
        for (int row = 0; row < state.events.size; row++) {
            trial.undergo(state.events.firsts[row], state.events.seconds[row]);
        }
        Plan then = tried();
        switch (what) {
            case 0: return then.cost;
            case 1: return then.groups.size;
            default: return then.reserve;
        }
    }

    public int book(int year, int price) {
        return pricedRow(state.book, year, price);
    }

    public int looked() {
        return workedOut().firstOtherwise(state.book);
    }

    // ---- judging, the image, tapes

    public int judge(int tape, int i) {
        if (!hasTape(tape)) {
            return NONE;
        }
        Tape row = tapes[tape];
        if (row.sort != NO_ROW && row.sort != LONGS) {
            return CAST;
        }
        Plan now = workedOut();
        for (int y = 0; y < state.setUp.years; y++) {
            if (!row.hasPlace(i + y)) {
                return RAN_OUT + y;
            }
            if (row.items[i + y] != now.priceOfYear(y)) {
                return y;
            }
        }
        return NOT_THERE;
    }

    public int image() {
        kept.copyFrom(state);
        imageTaken = true;
        return state.setUp.years;
    }

    public int undo() {
        if (!imageTaken) {
            return STATE;
        }
        planIsFresh = false;
        state.copyFrom(kept);
        return state.setUp.years;
    }

    public int count(int what) {
        switch (what) {
            case 0: return state.seen.size;
            case 1: return state.events.size;
            case 2: return state.book.size;
            case 3: return script.size;
            default: return BAD;
        }
    }

    public int tape(int tape, int sort, int n) {
        if (!hasTape(tape)) {
            return NONE;
        }
        if (sort == NO_ROW) {
            tapes[tape].become(NO_ROW, 0);
            return 1;
        }
        if (!within(sort, BYTES, BOOLEANS) || n > TAPE_ITEMS) {
            return BAD;
        }
        if (n < 0) {
            return SIZE;
        }
        tapes[tape].become(sort, n);
        return 1;
    }

    public int item(int tape, int i, long v) {
        if (!hasTape(tape)) {
            return NONE;
        }
        Tape row = tapes[tape];
        if (row.sort == NO_ROW) {
            return NOTHING;
        }
        if (!row.hasPlace(i)) {
            return PLACE;
        }
        row.items[i] = row.lowestBits(v);
        return 1;
    }

    public long peek(int tape, int i) {
        if (!hasTape(tape) || !tapes[tape].hasPlace(i)) {
            return NO;
        }
        return tapes[tape].items[i];
    }

    public int shift(int tape, int i, int other, int j, int n) {
        if (!hasTape(tape) || !hasTape(other)) {
            return NONE;
        }
        Tape source = tapes[tape];
        Tape target = tapes[other];
        if (source.sort == NO_ROW || target.sort == NO_ROW) {
            return NOTHING;
        }
        if (source.sort != target.sort) {
            return CAST;
        }
        if (!source.hasRun(i, n) || !target.hasRun(j, n)) {
            return PLACE;
        }
        System.arraycopy(source.items, i, target.items, j, n);
        return n;
    }

    // ---- what the calls share

    private static boolean within(int v, int least, int most) {
        return v >= least && v <= most;
    }

    private static boolean hasTape(int tape) {
        return within(tape, 0, TAPES - 1);
    }

    /** Worked out only when something was told since: most calls ask. */
    private Plan workedOut() {
        if (!planIsFresh) {
            plan.workOut(state.setUp);
            planIsFresh = true;
        }
        return plan;
    }

    private void startTrial() {
        trial.copyFrom(state.setUp);
    }

    private Plan tried() {
        trialPlan.workOut(trial);
        return trialPlan;
    }

    private int pricedRow(Rows rows, int year, int price) {
        if (year == -1) {
            return rows.empty();
        }
        if (!state.setUp.hasYear(year)) {
            return NONE;
        }
        if (!within(price, 0, TOP_PRICE)) {
            return BAD;
        }
        return rows.append(year, price);
    }

    /** below is 1 at least; so is the divisor, as it is below's. */
    private static long lowestTerms(int above, int below, int part) {
        int divisor = 1;
        for (int d = 2; d <= below; d++) {
            if (above % d == 0 && below % d == 0) {
                divisor = d;
            }
        }
        return part == 0 ? above / divisor : below / divisor;
    }

    /** The years, the measures and the four settings, as they were told. */
    private static final class SetUp {
        final int[] caps = new int[YEARS];
        final int[] emissions = new int[YEARS];
        final int[] owners = new int[MEASURES];
        final int[] costs = new int[MEASURES];
        final int[] muches = new int[MEASURES];
        final int[] settings = {0, TOP_PRICE, 0, 0};
        int years = 0;
        int measures = 0;

        boolean hasYear(int y) {
            return within(y, 0, years - 1);
        }

        boolean hasMeasure(int m) {
            return within(m, 0, measures - 1);
        }

        int addYear(int cap, int emission) {
            if (!allowed(CAP, cap) || !allowed(EMISSION, emission)) {
                return BAD;
            }
            if (years >= YEARS) {
                return FULL;
            }
            caps[years] = cap;
            emissions[years] = emission;
            return years++;
        }

        int addMeasure(int y, int cost, int much) {
            if (!hasYear(y)) {
                return NONE;
            }
            if (!allowed(COST, cost) || !allowed(MUCH, much)) {
                return BAD;
            }
            if (measures >= MEASURES) {
                return FULL;
            }
            owners[measures] = y;
            costs[measures] = cost;
            muches[measures] = much;
            return measures++;
        }

        int change(int what, int k, int v) {
            if (!within(what, CAP, MUCH)) {
                return NONE;
            }
            boolean known = what <= EMISSION ? hasYear(k) : hasMeasure(k);
            if (!known) {
                return NONE;
            }
            if (!allowed(what, v)) {
                return BAD;
            }
            int[] row = rowOf(what);
            int was = row[k];
            row[k] = v;
            return was;
        }

        int adjust(int what, int v) {
            if (!within(what, FLOOR, LIMIT)) {
                return NONE;
            }
            if (!within(v, 0, MOST_SETTING[what])) {
                return BAD;
            }
            int was = settings[what];
            settings[what] = v;
            return was;
        }

        /** One row of the events happens; its year is there, as events go and come with the years. */
        void undergo(int what, int n) {
            if (what == CAP_GONE && hasYear(n)) {
                caps[n] = 0;
            } else if (what == EMISSION_UP && hasYear(n)) {
                emissions[n] = Math.min(emissions[n] + EMISSION_STEP, MOST[EMISSION]);
            } else if (what == LIMIT_SET) {
                settings[LIMIT] = n;
            } else if (what == FLOOR_SET) {
                settings[FLOOR] = n;
            }
        }

        int measuresOf(int y) {
            int n = 0;
            for (int m = 0; m < measures; m++) {
                if (owners[m] == y) {
                    n++;
                }
            }
            return n;
        }

        /** Whether measure a comes ahead of b of the same year by merit. */
        boolean isAhead(int a, int b) {
            return owners[a] == owners[b] && (costs[a] < costs[b] || (costs[a] == costs[b] && a < b));
        }

        int byMerit(int y, int k) {
            for (int m = 0; m < measures; m++) {
                if (owners[m] == y && howManyAhead(m) == k) {
                    return m;
                }
            }
            return NOT_THERE;
        }

        void copyFrom(SetUp other) {
            System.arraycopy(other.caps, 0, caps, 0, YEARS);
            System.arraycopy(other.emissions, 0, emissions, 0, YEARS);
            System.arraycopy(other.owners, 0, owners, 0, MEASURES);
            System.arraycopy(other.costs, 0, costs, 0, MEASURES);
            System.arraycopy(other.muches, 0, muches, 0, MEASURES);
            System.arraycopy(other.settings, 0, settings, 0, settings.length);
            years = other.years;
            measures = other.measures;
        }

        private int howManyAhead(int measure) {
            int n = 0;
            for (int m = 0; m < measures; m++) {
                if (isAhead(m, measure)) {
                    n++;
                }
            }
            return n;
        }

        private int[] rowOf(int what) {
            switch (what) {
                case CAP: return caps;
                case EMISSION: return emissions;
                case COST: return costs;
                default: return muches;
            }
        }

        private static boolean allowed(int what, int v) {
            return within(v, LEAST[what], MOST[what]);
        }
    }

    /** Rows of two numbers, up to a limit. */
    private static final class Rows {
        final int[] firsts;
        final int[] seconds;
        int size = 0;

        Rows(int limit) {
            firsts = new int[limit];
            seconds = new int[limit];
        }

        int append(int first, int second) {
            if (size >= firsts.length) {
                return FULL;
            }
            firsts[size] = first;
            seconds[size] = second;
            size++;
            return size;
        }

        int empty() {
            size = 0;
            return 0;
        }

        void copyFrom(Rows other) {
            size = 0;
            for (int row = 0; row < other.size; row++) {
                append(other.firsts[row], other.seconds[row]);
            }
        }
    }

    /** All that an image holds. */
    private static final class State {
        final SetUp setUp = new SetUp();
        final Rows seen = new Rows(SEEN_ROWS);
        final Rows events = new Rows(EVENT_ROWS);
        final Rows book = new Rows(BOOK_ROWS);

        void copyFrom(State other) {
            setUp.copyFrom(other.setUp);
            seen.copyFrom(other.seen);
            events.copyFrom(other.events);
            book.copyFrom(other.book);
        }
    }

    /** LOW and HIGH of years in a row. */
    private static final class Demand {
        /** Row y: LOW of all years ahead of y together, so that years in a row cost one subtraction. */
        private final int[][] sums = new int[YEARS + 1][TOP_PRICE + 1];

        void fill(SetUp s) {
            for (int y = 0; y < s.years; y++) {
                fillYear(s, y, sums[y + 1]);
                for (int p = 0; p <= TOP_PRICE; p++) {
                    sums[y + 1][p] = sums[y][p] + Math.max(0, sums[y + 1][p]);
                }
            }
        }

        int lowOf(int first, int last, int p) {
            return sums[last + 1][p] - sums[first][p];
        }

        /** Costs are whole numbers from 1 on: those below p are those of p - 1 or below. */
        int highOf(int first, int last, int p) {
            return lowOf(first, last, Math.max(0, p - 1));
        }

        int priceFor(int first, int last, int permits) {
            for (int p = 0; p < TOP_PRICE; p++) {
                if (lowOf(first, last, p) <= permits) {
                    return p;
                }
            }
            return TOP_PRICE;
        }

        private static void fillYear(SetUp s, int y, int[] row) {
            for (int p = 0; p <= TOP_PRICE; p++) {
                row[p] = s.emissions[y];
            }
            for (int m = 0; m < s.measures; m++) {
                for (int p = s.costs[m]; p <= TOP_PRICE && s.owners[m] == y; p++) {
                    row[p] -= s.muches[m];
                }
            }
        }
    }

    /** The years joined to groups by the permits that they have. */
    private static final class Groups {
        final int[] firsts = new int[YEARS];
        final int[] lasts = new int[YEARS];
        final int[] prices = new int[YEARS];
        int size = 0;

        void find(Demand demand, int[] permits, int years) {
            size = years;
            for (int y = 0; y < years; y++) {
                firsts[y] = y;
                lasts[y] = y;
                prices[y] = demand.priceFor(y, y, permits[y]);
            }
            for (int joined = 0; joined < years; joined++) {
                int g = firstRise();
                if (g < 0) {
                    return;
                }
                joinNext(g);
                prices[g] = demand.priceFor(firsts[g], lasts[g], sum(permits, g));
            }
        }

        int sum(int[] row, int g) {
            int n = 0;
            for (int y = firsts[g]; y <= lasts[g]; y++) {
                n += row[y];
            }
            return n;
        }

        private int firstRise() {
            for (int g = 0; g + 1 < size; g++) {
                if (prices[g] < prices[g + 1]) {
                    return g;
                }
            }
            return -1;
        }

        private void joinNext(int g) {
            lasts[g] = lasts[g + 1];
            size--;
            for (int k = g + 1; k < size; k++) {
                firsts[k] = firsts[k + 1];
                lasts[k] = lasts[k + 1];
                prices[k] = prices[k + 1];
            }
        }
    }

    /** A set-up worked out. */
    private static final class Plan {
        final Demand demand = new Demand();
        final Groups groups = new Groups();
        final int[] permits = new int[YEARS];
        final int[] borrowed = new int[YEARS];
        final int[] groupOf = new int[YEARS];
        final int[] used = new int[YEARS];
        final int[] banks = new int[YEARS];
        final int[] shorts = new int[YEARS];
        final int[] done = new int[MEASURES];
        /** flows[i][j]: how many permits of year i year j uses; i above j is never other than 0. */
        final int[][] flows = new int[YEARS][YEARS];
        private final int[] left = new int[YEARS];
        int years = 0;
        int reserve = 0;
        int taken = 0;
        int given = 0;
        int lent = 0;
        long cost = 0;

        void workOut(SetUp s) {
            start(s);
            takeBelow(s.settings[FLOOR]);
            giveAbove(s.settings[CEILING]);
            borrowUpTo(s.settings[LIMIT]);
            for (int g = 0; g < groups.size; g++) {
                usePermits(g);
                sharePermits(g);
            }
            doMeasures(s);
        }

        int priceOfYear(int y) {
            return groups.prices[groupOf[y]];
        }

        int sumOver(int[] row, int g) {
            return groups.sum(row, g);
        }

        int allShorts() {
            int n = 0;
            for (int g = 0; g < groups.size; g++) {
                n += shorts[g];
            }
            return n;
        }

        int unlikePrices() {
            int n = 0;
            for (int g = 0; g < groups.size; g++) {
                if (isNewPrice(g)) {
                    n++;
                }
            }
            return n;
        }

        int flowCount() {
            int n = 0;
            for (int to = 0; to < years; to++) {
                for (int from = 0; from <= to; from++) {
                    n += flows[from][to] > 0 ? 1 : 0;
                }
            }
            return n;
        }

        /** Of the k-th way what 0 from, 1 to, 2 how many. */
        int flowPart(int k, int what) {
            int before = 0;
            for (int to = 0; to < years; to++) {
                for (int from = 0; from <= to; from++) {
                    if (flows[from][to] > 0 && before == k) {
                        return what == 0 ? from : what == 1 ? to : flows[from][to];
                    }
                    before += flows[from][to] > 0 ? 1 : 0;
                }
            }
            return NONE;
        }

        /** How many measures stand ahead of one by what is left of them. */
        int rankOf(SetUp s, int measure) {
            int n = 0;
            for (int m = 0; m < s.measures; m++) {
                if (ranksAhead(s, m, measure)) {
                    n++;
                }
            }
            return n;
        }

        /** The first row, of years and prices, whose price is not the year's. */
        int firstOtherwise(Rows rows) {
            for (int row = 0; row < rows.size; row++) {
                int y = rows.firsts[row];
                if (y < years && priceOfYear(y) != rows.seconds[row]) {
                    return row;
                }
            }
            return NOT_THERE;
        }

        private void start(SetUp s) {
            years = s.years;
            reserve = s.settings[STOCK];
            taken = 0;
            given = 0;
            lent = 0;
            for (int y = 0; y < years; y++) {
                permits[y] = s.caps[y];
                borrowed[y] = 0;
            }
            demand.fill(s);
            groups.find(demand, permits, years);
        }

        private void takeBelow(int floor) {
            for (int step = 0; step < STEPS; step++) {
                int y = yearToTakeFrom(floor);
                if (y < 0) {
                    return;
                }
                permits[y]--;
                reserve++;
                taken++;
                groups.find(demand, permits, years);
            }
        }

        private int yearToTakeFrom(int floor) {
            for (int g = 0; g < groups.size; g++) {
                for (int y = groups.lasts[g]; y >= groups.firsts[g] && groups.prices[g] < floor; y--) {
                    if (permits[y] > 0) {
                        return y;
                    }
                }
            }
            return -1;
        }

        private void giveAbove(int ceiling) {
            for (int step = 0; step < STEPS && reserve > 0; step++) {
                int y = yearToGiveTo(ceiling);
                if (y < 0) {
                    return;
                }
                permits[y]++;
                reserve--;
                given++;
                groups.find(demand, permits, years);
            }
        }

        private int yearToGiveTo(int ceiling) {
            for (int g = 0; g < groups.size; g++) {
                if (groups.prices[g] > ceiling) {
                    return groups.firsts[g];
                }
            }
            return -1;
        }

        private void borrowUpTo(int limit) {
            for (int step = 0; step < STEPS; step++) {
                int g = groupToLendTo(limit);
                if (g < 0) {
                    return;
                }
                int borrower = groups.lasts[g];
                permits[groups.firsts[g + 1]]--;
                permits[borrower]++;
                borrowed[borrower]++;
                lent++;
                groups.find(demand, permits, years);
            }
        }

        private int groupToLendTo(int limit) {
            for (int g = 0; g + 1 < groups.size; g++) {
                boolean dearer = groups.prices[g] > groups.prices[g + 1];
                if (dearer && borrowed[groups.lasts[g]] < limit && permits[groups.firsts[g + 1]] > 0) {
                    return g;
                }
            }
            return -1;
        }

        private void usePermits(int g) {
            int first = groups.firsts[g];
            int last = groups.lasts[g];
            int price = groups.prices[g];
            int toSpare = Math.max(0, demand.highOf(first, last, price) - groups.sum(permits, g));
            int over = 0;
            for (int y = first; y <= last; y++) {
                int high = demand.highOf(y, y, price);
                groupOf[y] = g;
                used[y] = Math.max(demand.lowOf(y, y, price), high - toSpare);
                toSpare -= high - used[y];
                over += permits[y] - used[y];
                banks[y] = Math.max(0, over);
            }
            shorts[g] = Math.max(0, -over);
        }

        private void sharePermits(int g) {
            for (int to = groups.firsts[g]; to <= groups.lasts[g]; to++) {
                left[to] = permits[to];
                int wanted = used[to];
                for (int from = 0; from <= to; from++) {
                    int many = from < groups.firsts[g] ? 0 : Math.min(wanted, left[from]);
                    flows[from][to] = many;
                    left[from] -= many;
                    wanted -= many;
                }
            }
        }

        private void doMeasures(SetUp s) {
            cost = (long) SHORT_COST * allShorts();
            for (int m = 0; m < s.measures; m++) {
                int spared = s.emissions[s.owners[m]] - used[s.owners[m]];
                for (int other = 0; other < s.measures; other++) {
                    spared -= s.isAhead(other, m) ? s.muches[other] : 0;
                }
                done[m] = Math.max(0, Math.min(spared, s.muches[m]));
                cost += (long) done[m] * s.costs[m];
            }
        }

        private boolean ranksAhead(SetUp s, int a, int b) {
            int leftOfA = s.muches[a] - done[a];
            int leftOfB = s.muches[b] - done[b];
            if (leftOfA != leftOfB) {
                return leftOfA > leftOfB;
            }
            return s.costs[a] != s.costs[b] ? s.costs[a] < s.costs[b] : a > b;
        }

        private boolean isNewPrice(int g) {
            for (int k = 0; k < g; k++) {
                if (groups.prices[k] == groups.prices[g]) {
                    return false;
                }
            }
            return true;
        }
    }

    /** THE TEXT, and the clauses that it was scanned to. */
    private static final class Script {
        private final int[] signs = new int[TEXT_SIGNS];
        /** Each row: the clause's letter, then its numbers. */
        private final int[][] clauses = new int[CLAUSES][4];
        private int clauseCount = 0;
        int size = 0;
        /** As far as it was scanned: where the fault is, if there is one. */
        int place = 0;

        int append(int sign) {
            if (!within(sign, 0, TOP_SIGN)) {
                return BAD;
            }
            if (size >= TEXT_SIGNS) {
                return FULL;
            }
            signs[size] = sign;
            size++;
            return size;
        }

        void empty() {
            size = 0;
        }

        /** Whether THE TEXT is a set-up. */
        boolean scan() {
            place = 0;
            clauseCount = 0;
            for (int k = 0; k < CLAUSES; k++) {
                if (k > 0 && !scanSign(';')) {
                    return false;
                }
                if (!scanClause(clauses[k])) {
                    return false;
                }
                clauseCount++;
                if (place >= size) {
                    return true;
                }
            }
            return false;
        }

        /** Does the clauses; answers how many were not refused. */
        int perform(SetUp s) {
            int n = 0;
            for (int k = 0; k < clauseCount; k++) {
                if (doClause(s, clauses[k]) >= 0) {
                    n++;
                }
            }
            return n;
        }

        private static int doClause(SetUp s, int[] clause) {
            switch (clause[0]) {
                case 'y': return s.addYear(clause[1], clause[2]);
                case 'm': return s.addMeasure(clause[1], clause[2], clause[3]);
                case 'f': return s.adjust(FLOOR, clause[1]);
                case 'c': return s.adjust(CEILING, clause[1]);
                case 's': return s.adjust(STOCK, clause[1]);
                default: return s.adjust(LIMIT, clause[1]);
            }
        }

        private boolean scanClause(int[] clause) {
            clause[0] = place < size ? signs[place] : -1;
            switch (clause[0]) {
                case 'y':
                    place++;
                    return scanNumber(clause, 1, 2) && scanSign(',') && scanNumber(clause, 2, 2);
                case 'm':
                    place++;
                    return scanNumber(clause, 1, 1) && scanNumber(clause, 2, 2)
                        && scanSign(',') && scanNumber(clause, 3, 1);
                case 'f':
                case 'c':
                case 's':
                    place++;
                    return scanNumber(clause, 1, 2);
                case 'l':
                    place++;
                    return scanNumber(clause, 1, 1);
                default:
                    return false;
            }
        }

        /** A number of 1 to most digits, put into a column of the clause. */
        private boolean scanNumber(int[] clause, int column, int most) {
            int value = 0;
            int digits = 0;
            while (digits < most && place < size && within(signs[place], '0', '9')) {
                value = value * 10 + signs[place] - '0';
                place++;
                digits++;
            }
            clause[column] = value;
            return digits > 0;
        }

        private boolean scanSign(char wanted) {
            if (place >= size || signs[place] != wanted) {
                return false;
            }
            place++;
            return true;
        }
    }

    /** A row of one sort, or nothing. */
    private static final class Tape {
        /** Kept as longs, each already as short as its sort makes it: no row need be made anew. */
        final long[] items = new long[TAPE_ITEMS];
        int sort = NO_ROW;
        int size = 0;

        void become(int newSort, int n) {
            sort = newSort;
            size = n;
            for (int i = 0; i < TAPE_ITEMS; i++) {
                items[i] = 0;
            }
        }

        boolean hasPlace(int i) {
            return within(i, 0, size - 1);
        }

        /** Asked by what is left behind i, as i + n may run over. */
        boolean hasRun(int i, int n) {
            return n >= 0 && within(i, 0, size) && n <= size - i;
        }

        long lowestBits(long v) {
            switch (sort) {
                case BYTES: return (byte) v;
                case SHORTS: return (short) v;
                case INTS: return (int) v;
                case BOOLEANS: return v != 0 ? 1 : 0;
                default: return v;
            }
        }
    }
}
