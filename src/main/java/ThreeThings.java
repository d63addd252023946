import java.util.Arrays;

/** Three things to a person: an island's creed, its steps, works, thefts and drowned. */
public final class ThreeThings {
    public static final int BAD = -1, FULL = -2, FINDING = -3, STATE = -4, SPENT = -6, NONE = -9;

    private static final int NOTHING = 1, BEYOND = 2, UNLIKE = 3, NOUGHT = 4, SIZE = 5, FINDINGS = 5;
    private static final int ROWS = 6, ROW_ROOM = 60, TEXTS = 4, TEXT_ROOM = 100, BLANK = 32;
    private static final int PEOPLE = 4, THINGS = 5, BAGS = 2, WORKS = 8, HOURS = 6, MOST_WORTH = 9;
    private static final int BEACH = 4, FIRST_BAG = 5, PLACES = 7;
    private static final int BAG = 1, LIVING = 2, HEAVY = 3, SACK = 4, BEAST = 5;
    private static final int CREED = 3, MOST_LIMIT = 6, MOST_DONE = 40, MOST_SEEN = 8, KEEPS = 3;
    private static final int MOST_AHEAD = 2, MOST_THEFT = 4, MOST_THEFTS = 3, COUNTS = 8, DAY_STEPS = 4;
    /** A state as one number has a figure of seven for each THING: 7 to the 5th. */
    private static final int CODES = 16807;
    /** Two SACKS and three plain THINGS can lie in the most ways: 25 (343 - 2), three in one SACK being too many. */
    private static final int STATES = 8525;
    /** Those have the most pairs of states one STEP apart, too: 78,050. */
    private static final int PAIRS = 80000;
    private static final int[] SEVENS = {1, 7, 49, 343, 2401};

    private final Told told;
    private final Rows rows;
    private final Rows texts;
    private final Reader reader;
    private final Island isle;
    private final Places now;
    /** A second state, to try things in. */
    private final Places trial;
    /** STEPS that are done: the THING, and where it was before. */
    private final Pairs done;
    /** What was SEEN: the WORK, and 0, 1. */
    private final Pairs seen;
    /** States that are kept, as numbers, and their LIMITS; 0: none. */
    private final int[] keptCode;
    private final int[] keptLimit;
    private final Search search;
    private final Days days;
    private final Theft thief;

    public ThreeThings() {
        told = new Told();
        rows = new Rows(ROWS, ROW_ROOM);
        texts = new Rows(TEXTS, TEXT_ROOM);
        reader = new Reader(texts);
        isle = new Island();
        now = new Places(isle);
        trial = new Places(isle);
        done = new Pairs(MOST_DONE);
        seen = new Pairs(MOST_SEEN);
        keptCode = new int[KEEPS];
        keptLimit = new int[KEEPS];
        States states = new States();
        search = new Search(isle, states);
        days = new Days(isle, search);
        thief = new Theft(isle, states, search);
    }

    // ---- 1 rows, texts, islands

    public int row(int r, int n) {
        if (!rows.isOne(r) || n > ROW_ROOM) return BAD;
        if (n < 0) return told.find(SIZE);
        rows.make(r, n, 0);
        return n;
    }

    public int lay(int r, int i, int v) {
        if (!rows.isOne(r)) return BAD;
        if (rows.missing(r)) return told.find(NOTHING);
        if (!rows.hasPlaces(r, i, 1)) return told.find(BEYOND);
        int was = rows.get(r, i);
        rows.set(r, i, v);
        return told.tell(was);
    }

    public int at(int r, int i) {
        if (!rows.isOne(r)) return BAD;
        if (rows.missing(r)) return told.find(NOTHING);
        if (!rows.hasPlaces(r, i, 1)) return told.find(BEYOND);
        return told.tell(rows.get(r, i));
    }

    public int tear(int r) {
        if (!rows.isOne(r)) return BAD;
        if (rows.missing(r)) return told.find(NOTHING);
        rows.drop(r);
        return 1;
    }

    public int copy(int r, int i, int to, int j, int n) {
        if (!rows.isOne(r) || !rows.isOne(to)) return BAD;
        if (n < 0) return told.find(SIZE);
        if (rows.missing(r) || rows.missing(to)) return told.find(NOTHING);
        if (!rows.hasPlaces(r, i, n) || !rows.hasPlaces(to, j, n)) return told.find(BEYOND);
        rows.shift(r, i, to, j, n);
        return 1;
    }

    public int mean(int r) {
        if (!rows.isOne(r)) return BAD;
        if (rows.missing(r)) return told.find(NOTHING);
        int n = rows.sizeOf(r);
        if (n <= 0) return told.find(NOUGHT);
        return told.tell((int) (rows.sum(r) / n));
    }

    public int text(int t, int n) {
        if (!texts.isOne(t) || n > TEXT_ROOM) return BAD;
        if (n < 0) return told.find(SIZE);
        texts.make(t, n, BLANK);
        return n;
    }

    public int put(int t, int i, int v) {
        if (!texts.isOne(t)) return BAD;
        if (texts.missing(t)) return told.find(NOTHING);
        if (!texts.hasPlaces(t, i, 1)) return told.find(BEYOND);
        int was = texts.get(t, i);
        texts.set(t, i, (byte) v);
        return was + 1000;
    }

    public int fault(int t) {
        if (!texts.isOne(t)) return BAD;
        if (texts.missing(t)) return told.find(NOTHING);
        return reader.firstFault(t);
    }

    public int island(int t) {
        if (!texts.isOne(t)) return BAD;
        if (texts.missing(t)) return told.find(NOTHING);
        if (reader.firstFault(t) != NONE) return STATE;
        isle.become(reader.draft);
        search.spoil();
        now.begin();
        done.count = 0;
        seen.count = 0;
        Arrays.fill(keptLimit, 0);
        return isle.things;
    }

    public int thing(int t, int what) {
        if (!isle.isThing(t) || what < 0 || what > 3) return BAD;
        return told.tell(ofThing(t, what));
    }

    private int ofThing(int t, int what) {
        switch (what) {
            case 0: return isle.kind[t];
            case 1: return now.where[t];
            case 2: return isle.weight[t];
            default: return now.whom(t);
        }
    }

    public int mark(int t, int kind) {
        if (!isle.isThing(t) || kind < BAG || kind > BEAST) return BAD;
        if (!isle.isOf(t, kind)) return told.find(UNLIKE);
        switch (kind) {
            case BAG: return now.inBag(t);
            case LIVING: return now.loadOf(now.where[t]);
            case HEAVY: return isle.wanting(t);
            case SACK: return isle.room[t] - now.inBag(t);
            default: return Integer.bitCount(now.heldBy(now.where[t])) - 1;
        }
    }

    public int work(int w, int what) {
        if (!isle.isWork(w) || what < 0 || what > 3) return BAD;
        return told.tell(isle.ofWork(w, what));
    }

    public int load(int p) {
        if (!isle.isPerson(p)) return BAD;
        told.tell(now.heldBy(p));
        return now.loadOf(p);
    }

    public int limit(int v) {
        if (v < 1 || v > MOST_LIMIT) return BAD;
        if (now.heaviest() > v) return STATE;
        int was = now.limit;
        now.limit = v;
        done.count = 0;
        return was;
    }

    // ---- 2 steps

    public int step(int t, int to) {
        if (!isle.isStep(t, to)) return BAD;
        if (!now.allows(t, to)) return STATE;
        if (done.isFull()) return FULL;
        doStep(t, to);
        return 1;
    }

    private void doStep(int t, int to) {
        done.add(t, now.where[t]);
        now.move(t, to);
    }

    public int may(int t, int to) {
        if (!isle.isStep(t, to)) return BAD;
        return now.allows(t, to) ? 1 : 0;
    }

    public int steps() {
        int sum = 0;
        int first = NONE;
        for (int t = 0; t < isle.things; t++) {
            int mask = now.targets(t);
            sum += Integer.bitCount(mask);
            if (first == NONE && mask != 0) first = PLACES * t + lowest(mask);
        }
        told.tell(first);
        return sum;
    }

    private static int lowest(int mask) {
        for (int to = 0; to < PLACES; to++) {
            if ((mask >> to & 1) != 0) return to;
        }
        return NONE;
    }

    public int undo(int n) {
        if (n < 0 || n > done.count) return BAD;
        int back = done.count - n;
        for (int i = done.count - 1; i >= n; i--) now.move(done.firstOf(i), done.secondOf(i));
        done.count = n;
        return back;
    }

    public int does(int r) {
        if (!rows.isOne(r)) return BAD;
        if (rows.missing(r)) return told.find(NOTHING);
        int n = rows.sizeOf(r);
        for (int i = 0; i < n; i++) {
            if (!isle.isNumber(rows.get(r, i))) return told.find(UNLIKE);
        }
        if (done.count + n > MOST_DONE) return FULL;
        for (int i = 0; i < n; i++) {
            int number = rows.get(r, i);
            if (!now.allows(number / PLACES, number % PLACES)) return i;
            doStep(number / PLACES, number % PLACES);
        }
        return n;
    }

    public int keep(int k) {
        if (!isKeep(k)) return BAD;
        if (isle.people == 0) return STATE;
        keptCode[k] = now.code();
        keptLimit[k] = now.limit;
        return done.count;
    }

    private static boolean isKeep(int k) {
        return k >= 0 && k < KEEPS;
    }

    public int on(int k) {
        if (!isKeep(k)) return BAD;
        if (keptLimit[k] == 0) return told.find(NOTHING);
        goOnFrom(keptCode[k], keptLimit[k]);
        return 1;
    }

    private void goOnFrom(int code, int limit) {
        now.decode(code);
        now.limit = limit;
        done.count = 0;
    }

    public int can() {
        int works = now.doable();
        told.tell(isle.worthOf(works));
        return works;
    }

    public int day(int r) {
        if (!rows.isOne(r)) return BAD;
        if (rows.missing(r)) return told.find(NOTHING);
        int n = rows.sizeOf(r);
        if (n == 0 || n % HOURS != 0 || n / HOURS > DAY_STEPS) return told.find(SIZE);
        for (int i = 0; i < n; i++) {
            int number = rows.get(r, i);
            if (number != -1 && !isle.isNumber(number)) return told.find(UNLIKE);
        }
        int works = worksOfDay(r, n / HOURS);
        told.tell(isle.worthOf(works));
        return works;
    }

    private int worksOfDay(int r, int ahead) {
        int works = 0;
        trial.become(now);
        for (int h = 0; h < HOURS; h++) {
            for (int i = h * ahead; i < (h + 1) * ahead; i++) {
                int number = rows.get(r, i);
                if (number < 0) continue;
                int t = number / PLACES;
                int to = number % PLACES;
                if (trial.allows(t, to)) trial.move(t, to);
            }
            works |= trial.doable() & isle.byHour[h];
        }
        return works;
    }

    // ---- 3 fewest, most

    public int fewest(int r) {
        int refused = wanted(r);
        if (refused != 0) return refused;
        int i = search.firstAsWanted();
        if (i == NONE) return NONE;
        told.tell(search.asNear(i));
        return search.depthOf(i);
    }

    /** Takes where THINGS are wanted from a ROW: 0, or how it is refused. */
    private int wanted(int r) {
        if (!rows.isOne(r)) return BAD;
        if (rows.missing(r)) return told.find(NOTHING);
        if (rows.sizeOf(r) != isle.things) return told.find(SIZE);
        for (int t = 0; t < isle.things; t++) {
            int p = rows.get(r, t);
            if (p != -1 && p != BEACH && !isle.isPerson(p)) return told.find(UNLIKE);
        }
        search.begin(now.code(), now.limit);
        for (int t = 0; t < isle.things; t++) search.want(t, rows.get(r, t));
        return 0;
    }

    public int way(int r, int to) {
        if (!rows.isOne(r) || !rows.isOne(to)) return BAD;
        int refused = wanted(r);
        if (refused != 0) return refused;
        int i = search.firstAsWanted();
        if (i == NONE) return NONE;
        int n = search.depthOf(i);
        // No island needs nearly as many; a longer way would find no room in a ROW.
        if (n > ROW_ROOM) return NONE;
        rows.make(to, n, 0);
        for (int k = n - 1; k >= 0; k--) {
            rows.set(to, k, search.stepTo(i));
            i = search.stateBefore(i);
        }
        return n;
    }

    public int all() {
        search.begin(now.code(), now.limit);
        search.expandTo(STATES);
        int n = search.found();
        told.tell(search.depthOf(n - 1));
        return n;
    }

    public int till(int w) {
        if (!isle.isWork(w)) return BAD;
        search.begin(now.code(), now.limit);
        int i = search.firstDoing(w);
        return i == NONE ? NONE : search.depthOf(i);
    }

    public int most(int m) {
        if (m < 0 || m > MOST_AHEAD) return BAD;
        told.tell(isle.worthOfAll());
        return days.best(now.code(), now.limit, m);
    }

    public int hand(int m) {
        if (m < 0 || m > MOST_AHEAD) return BAD;
        if (now.limit >= MOST_LIMIT) return 0;
        int as = days.best(now.code(), now.limit, m);
        return days.best(now.code(), now.limit + 1, m) - as;
    }

    public int creed(int v, int m) {
        if (v < 1 || v > MOST_LIMIT || m < 0 || m > MOST_AHEAD) return BAD;
        if (now.heaviest() > v) return STATE;
        return days.best(now.code(), v, m);
    }

    // ---- 4 theft, neighbours, the drowned

    public int theft(int p, int t) {
        if (!isle.isPerson(p) || !isle.isThing(t)) return BAD;
        return thief.fewestFor(now, p, t);
    }

    public int thefts(int p, int k) {
        if (!isle.isPerson(p) || k < 0 || k > MOST_THEFTS) return BAD;
        return thief.within(now, p, k);
    }

    public int drops(int p, int q) {
        if (!isle.isPerson(p) || !isle.isPerson(q) || p == q) return BAD;
        int most = 0;
        int gift = NONE;
        for (int t = 0; t < isle.things; t++) {
            if (now.where[t] != p) continue;
            int dropped = now.droppedFor(t, q);
            if (dropped != NONE && Integer.bitCount(dropped) > Integer.bitCount(most)) {
                most = dropped;
                gift = t;
            }
        }
        told.tell(gift);
        return most;
    }

    public int beside(int p, int q) {
        if (!isle.isPerson(p) || !isle.isPerson(q) || p == q) return BAD;
        return needs(p, q);
    }

    private int needs(int p, int q) {
        int one = isle.wantedBy(p) & now.heldBy(q);
        int other = isle.wantedBy(q) & now.heldBy(p);
        return Integer.bitCount(one) + Integer.bitCount(other);
    }

    public int pair() {
        int people = isle.people;
        if (people == 0) return STATE;
        int partner = NONE;
        int most = -1;
        for (int q = 1; q < people; q++) {
            // Of 1, 2, 3 the two that are not q: their sum is 6 - q, and the lesser is 1, or 2 if q is 1.
            int other = q == 1 ? 2 : 1;
            int sum = needs(0, q) + (people == PEOPLE ? needs(other, 6 - q - other) : 0);
            if (sum > most) {
                most = sum;
                partner = q;
            }
        }
        if (people == 3 && needs(1, 2) > most) {
            most = needs(1, 2);
            partner = NONE;
        }
        told.tell(Math.max(most, 0));
        return partner;
    }

    public int saw(int w, int is) {
        if (!isle.isWork(w) || is < 0 || is > 1) return BAD;
        if (seen.isFull()) return FULL;
        seen.add(w, is);
        return seen.count - 1;
    }

    public int forget(int n) {
        if (n < 0 || n > seen.count) return BAD;
        int gone = seen.count - n;
        seen.count = n;
        return gone;
    }

    public int drowned() {
        int in = (1 << isle.things) - 1;
        int sets = 0;
        for (int set = 0; set < 1 << isle.things; set++) {
            if (!canHaveHad(set)) continue;
            sets++;
            in &= set;
        }
        told.tell(sets == 0 ? 0 : in);
        return sets;
    }

    private boolean canHaveHad(int set) {
        int weight = 0;
        for (int t = 0; t < isle.things; t++) {
            if ((set >> t & 1) != 0) weight += isle.weight[t];
        }
        if (weight > now.limit) return false;
        for (int i = 0; i < seen.count; i++) {
            boolean wantsNone = (isle.wants[seen.firstOf(i)] & set) == 0;
            if (wantsNone != (seen.secondOf(i) == 1)) return false;
        }
        return true;
    }

    public int odds(int t) {
        if (!isle.isThing(t)) return BAD;
        int sets = 0;
        int with = 0;
        for (int set = 0; set < 1 << isle.things; set++) {
            if (!canHaveHad(set)) continue;
            sets++;
            with += set >> t & 1;
        }
        if (sets == 0) return told.find(NOUGHT);
        told.tellFraction(with, sets);
        return with;
    }

    public int image(int r) {
        if (!rows.isOne(r)) return BAD;
        rows.make(r, isle.things + 1, 0);
        for (int t = 0; t < isle.things; t++) rows.set(r, t, now.where[t]);
        rows.set(r, isle.things, now.limit);
        return isle.things + 1;
    }

    public int gone(int r) {
        if (!rows.isOne(r)) return BAD;
        if (rows.missing(r)) return told.find(NOTHING);
        if (rows.sizeOf(r) != isle.things + 1) return told.find(SIZE);
        int limit = rows.get(r, isle.things);
        if (limit < 1 || limit > MOST_LIMIT) return told.find(UNLIKE);
        for (int t = 0; t < isle.things; t++) {
            if (!isle.isPlace(rows.get(r, t))) return told.find(UNLIKE);
            trial.where[t] = rows.get(r, t);
        }
        trial.limit = limit;
        if (!trial.canBe()) return told.find(UNLIKE);
        goOnFrom(trial.code(), limit);
        return 1;
    }

    // ---- 5 what is told

    public int asked() {
        return told.asked;
    }

    public long upper() {
        return told.upper;
    }

    public long lower() {
        return told.lower;
    }

    public int count(int what) {
        if (what < 0 || what >= COUNTS) return BAD;
        return countOf(what);
    }

    private int countOf(int what) {
        switch (what) {
            case 0: return isle.people;
            case 1: return isle.things;
            case 2: return isle.works;
            case 3: return done.count;
            case 4: return isle.bags;
            case 5: return seen.count;
            case 6: return rows.there();
            default: return texts.there();
        }
    }

    public int finding() {
        return told.latest;
    }

    public int findings(int f) {
        if (f < 1 || f > FINDINGS) return BAD;
        return told.found[f];
    }

    public long digest() {
        long h = 17;
        for (int what = 0; what < COUNTS; what++) h = 31 * h + countOf(what);
        h = 31 * h + now.limit;
        h = mixIsland(h);
        h = mixSeen(h);
        h = mixKept(h);
        return texts.mix(rows.mix(h));
    }

    private long mixIsland(long h) {
        for (int t = 0; t < isle.things; t++) {
            for (int what = 0; what < 4; what++) h = 31 * h + ofThing(t, what);
        }
        for (int w = 0; w < isle.works; w++) {
            for (int what = 0; what < 4; what++) h = 31 * h + isle.ofWork(w, what);
        }
        return h;
    }

    private long mixSeen(long h) {
        for (int i = 0; i < seen.count; i++) {
            h = 31 * h + seen.firstOf(i);
            h = 31 * h + seen.secondOf(i);
        }
        return h;
    }

    private long mixKept(long h) {
        for (int k = 0; k < KEEPS; k++) {
            if (keptLimit[k] == 0) {
                h = 31 * h - 1;
                continue;
            }
            trial.decode(keptCode[k]);
            for (int t = 0; t < isle.things; t++) h = 31 * h + trial.where[t];
            h = 31 * h + keptLimit[k];
        }
        return h;
    }

    /** What calls tell beside their answers. */
    private static final class Told {
        int asked;
        long upper;
        long lower = 1;
        int latest;
        final int[] found = new int[FINDINGS + 1];

        int tell(int v) {
            asked = v;
            return 1;
        }

        int find(int f) {
            if (f < 1 || f > FINDINGS) return FINDING;
            latest = f;
            found[f]++;
            return FINDING;
        }

        /** Of two numbers not below 0, the second above it. */
        void tellFraction(int over, int under) {
            int a = under;
            int b = over;
            // Each rest is less than the one before: numbers of ints are through long before 64.
            for (int i = 0; i < 64 && b != 0; i++) {
                int rest = a % b;
                a = b;
                b = rest;
            }
            if (a == 0) return;
            upper = over / a;
            lower = under / a;
        }
    }

    /** ROWS or TEXTS, side by side in one array that is made once. */
    private static final class Rows {
        private final int room;
        private final int[] size;
        private final int[] places;

        Rows(int rows, int room) {
            this.room = room;
            size = new int[rows];
            places = new int[rows * room];
            Arrays.fill(size, -1);
        }

        boolean isOne(int r) {
            return r >= 0 && r < size.length;
        }

        boolean missing(int r) {
            return sizeOf(r) < 0;
        }

        /** -1: missing. */
        int sizeOf(int r) {
            return isOne(r) ? size[r] : -1;
        }

        void make(int r, int n, int v) {
            if (!isOne(r) || n < 0 || n > room) return;
            size[r] = n;
            Arrays.fill(places, r * room, r * room + n, v);
        }

        void drop(int r) {
            if (isOne(r)) size[r] = -1;
        }

        boolean hasPlaces(int r, int i, int n) {
            if (r < 0 || r >= size.length) return false;
            int all = size[r];
            return i >= 0 && i <= all && n >= 0 && n <= all - i;
        }

        int get(int r, int i) {
            return hasPlaces(r, i, 1) ? places[r * room + i] : 0;
        }

        void set(int r, int i, int v) {
            if (hasPlaces(r, i, 1)) places[r * room + i] = v;
        }

        void shift(int r, int i, int to, int j, int n) {
            if (!hasPlaces(r, i, n) || !hasPlaces(to, j, n)) return;
            System.arraycopy(places, r * room + i, places, to * room + j, n);
        }

        long sum(int r) {
            long sum = 0;
            for (int i = 0; i < sizeOf(r); i++) sum += get(r, i);
            return sum;
        }

        int there() {
            int n = 0;
            for (int r = 0; r < size.length; r++) n += size[r] < 0 ? 0 : 1;
            return n;
        }

        long mix(long digest) {
            long h = digest;
            for (int r = 0; r < size.length; r++) {
                h = 31 * h + size[r];
                for (int i = 0; i < size[r]; i++) h = 31 * h + get(r, i);
            }
            return h;
        }
    }

    /** PEOPLE, THINGS and WORKS as a TEXT tells them; where THINGS are now is not here. */
    private static final class Island {
        int people, things, works, bags;
        final int[] kind = new int[THINGS];
        final int[] start = new int[THINGS];
        /** What each THING counts, and how many it holds. */
        final int[] weight = new int[THINGS];
        final int[] room = new int[THINGS];
        final int[] bag = new int[BAGS];
        final int[] hour = new int[WORKS];
        final int[] who = new int[WORKS];
        final int[] wants = new int[WORKS];
        final int[] worth = new int[WORKS];
        /** WORKS (bits) of each HOUR. */
        final int[] byHour = new int[HOURS];
        /** WORTH together of each set of WORKS: the search for a DAY asks it of every state. */
        private final int[] worthOfSet = new int[1 << WORKS];

        void clear() {
            people = 0;
            things = 0;
            works = 0;
            bags = 0;
        }

        void addThing(int ofKind, int place) {
            if (things >= THINGS) return;
            kind[things] = ofKind;
            start[things] = place;
            weight[things] = weightOf(ofKind);
            room[things] = roomOf(ofKind);
            if (room[things] > 0 && bags < BAGS) bag[bags++] = things;
            things++;
        }

        void become(Island other) {
            people = other.people;
            things = other.things;
            works = other.works;
            bags = other.bags;
            System.arraycopy(other.kind, 0, kind, 0, THINGS);
            System.arraycopy(other.start, 0, start, 0, THINGS);
            System.arraycopy(other.weight, 0, weight, 0, THINGS);
            System.arraycopy(other.room, 0, room, 0, THINGS);
            System.arraycopy(other.bag, 0, bag, 0, BAGS);
            System.arraycopy(other.hour, 0, hour, 0, WORKS);
            System.arraycopy(other.who, 0, who, 0, WORKS);
            System.arraycopy(other.wants, 0, wants, 0, WORKS);
            System.arraycopy(other.worth, 0, worth, 0, WORKS);
            tallyWorks();
        }

        private void tallyWorks() {
            Arrays.fill(byHour, 0);
            for (int w = 0; w < works; w++) byHour[hour[w]] |= 1 << w;
            for (int set = 0; set < 1 << works; set++) {
                int sum = 0;
                for (int w = 0; w < works; w++) sum += (set >> w & 1) * worth[w];
                worthOfSet[set] = sum;
            }
        }

        boolean isPerson(int p) {
            return p >= 0 && p < people;
        }

        boolean isThing(int t) {
            return t >= 0 && t < things;
        }

        boolean isWork(int w) {
            return w >= 0 && w < works;
        }

        boolean isPlace(int to) {
            return isPerson(to) || to >= BEACH && to < FIRST_BAG + bags;
        }

        boolean isStep(int t, int to) {
            return isThing(t) && isPlace(to);
        }

        boolean isNumber(int v) {
            return v >= 0 && isStep(v / PLACES, v % PLACES);
        }

        boolean isBag(int t) {
            return isThing(t) && room[t] > 0;
        }

        boolean isLiving(int t) {
            return isThing(t) && (kind[t] == LIVING || kind[t] == BEAST);
        }

        boolean isOf(int t, int ofKind) {
            if (!isThing(t)) return false;
            return kind[t] == ofKind || ofKind == BAG && isBag(t) || ofKind == LIVING && isLiving(t);
        }

        static int weightOf(int ofKind) {
            return ofKind == HEAVY || ofKind == BEAST ? 2 : 1;
        }

        static int roomOf(int ofKind) {
            return ofKind == SACK ? 2 : ofKind == BAG ? 1 : 0;
        }

        int ofWork(int w, int what) {
            if (!isWork(w)) return 0;
            switch (what) {
                case 0: return hour[w];
                case 1: return who[w];
                case 2: return wants[w];
                default: return worth[w];
            }
        }

        int wanting(int t) {
            int n = 0;
            for (int w = 0; w < works; w++) n += wants[w] >> t & 1;
            return n;
        }

        /** THINGS (bits) that some WORK of one wants. */
        int wantedBy(int p) {
            int set = 0;
            for (int w = 0; w < works; w++) {
                if (who[w] == p) set |= wants[w];
            }
            return set;
        }

        int worthOf(int set) {
            return set >= 0 && set < worthOfSet.length ? worthOfSet[set] : 0;
        }

        int worthOfAll() {
            return worthOf((1 << works) - 1);
        }

        int lastHour() {
            int last = -1;
            for (int w = 0; w < works; w++) last = Math.max(last, hour[w]);
            return last;
        }
    }

    /** Reads a TEXT into a draft, so that a FAULT leaves the ISLAND as it was. */
    private static final class Reader {
        /** No byte: what stands behind a TEXT's end. */
        private static final int END = 256;

        private final Rows texts;
        final Island draft = new Island();
        private final int[] load = new int[PEOPLE];
        private int t;
        private int at;

        Reader(Rows texts) {
            this.texts = texts;
        }

        int firstFault(int text) {
            t = text;
            at = 0;
            draft.clear();
            Arrays.fill(load, 0);
            skipBlanks();
            boolean fine = readPeople();
            // An item is two signs at least.
            for (int i = 0; i < TEXT_ROOM && fine; i++) {
                skipBlanks();
                if (sign() == END) return NONE;
                fine = sign() == 'w' ? readWork() : readThing();
            }
            return at;
        }

        private int sign() {
            return texts.hasPlaces(t, at, 1) ? texts.get(t, at) : END;
        }

        private void skipBlanks() {
            for (int i = 0; i < TEXT_ROOM && sign() == BLANK; i++) at++;
        }

        /** The figure here, if it is one of these; -1 else, and it is the FAULT. */
        private int figure(int from, int to) {
            int v = sign() - '0';
            if (v < from || v > to) return -1;
            at++;
            return v;
        }

        private boolean readPeople() {
            if (sign() != 'p') return false;
            at++;
            int n = figure(1, PEOPLE);
            draft.people = Math.max(n, 0);
            return n > 0;
        }

        private boolean readThing() {
            int kind = kindOf(sign());
            boolean isBag = kind == BAG || kind == SACK;
            if (kind < 0 || draft.works > 0 || draft.things == THINGS) return false;
            if (isBag && draft.bags == BAGS) return false;
            at++;
            if (sign() == 'z') {
                if (kind == LIVING || kind == BEAST) return false;
                draft.addThing(kind, BEACH);
                at++;
                return true;
            }
            int p = sign() - '0';
            if (!draft.isPerson(p) || load[p] + Island.weightOf(kind) > CREED) return false;
            load[p] += Island.weightOf(kind);
            draft.addThing(kind, p);
            at++;
            return true;
        }

        private static int kindOf(int sign) {
            switch (sign) {
                case 't': return 0;
                case 'b': return BAG;
                case 'l': return LIVING;
                case 'h': return HEAVY;
                case 's': return SACK;
                case 'e': return BEAST;
                default: return -1;
            }
        }

        private boolean readWork() {
            int w = draft.works;
            if (w >= WORKS) return false;
            at++;
            draft.hour[w] = figure(0, HOURS - 1);
            if (draft.hour[w] < 0) return false;
            draft.who[w] = figure(0, draft.people - 1);
            if (draft.who[w] < 0) return false;
            draft.wants[w] = readWants();
            if (draft.wants[w] == 0 || sign() != ':') return false;
            at++;
            draft.worth[w] = figure(1, MOST_WORTH);
            if (draft.worth[w] < 0) return false;
            draft.works++;
            return true;
        }

        /** THINGS (bits), as far as they go on, each once. */
        private int readWants() {
            int set = 0;
            for (int i = 0; i < THINGS; i++) {
                int v = sign() - '0';
                if (!draft.isThing(v) || (set >> v & 1) != 0) return set;
                set |= 1 << v;
                at++;
            }
            return set;
        }
    }

    /** A state: where each THING is, by which LIMIT, and what follows from that. */
    private static final class Places {
        private final Island isle;
        final int[] where = new int[THINGS];
        /** What is with each of PEOPLE and on the BEACH, those in BAGS aside. */
        private final int[] load = new int[PEOPLE + 1];
        /** THINGS (bits) with each of PEOPLE and on the BEACH in the end. */
        private final int[] held = new int[PEOPLE + 1];
        private final int[] inside = new int[BAGS];
        int limit = CREED;

        Places(Island isle) {
            this.isle = isle;
        }

        void begin() {
            System.arraycopy(isle.start, 0, where, 0, THINGS);
            limit = CREED;
            tally();
        }

        void become(Places other) {
            System.arraycopy(other.where, 0, where, 0, THINGS);
            limit = other.limit;
            tally();
        }

        void decode(int code) {
            int rest = code;
            for (int t = 0; t < isle.things; t++) {
                where[t] = rest % PLACES;
                rest /= PLACES;
            }
            tally();
        }

        int code() {
            int code = 0;
            for (int t = 0; t < isle.things; t++) code += where[t] * SEVENS[t];
            return code;
        }

        void move(int t, int to) {
            if (!isle.isStep(t, to)) return;
            where[t] = to;
            tally();
        }

        private void tally() {
            Arrays.fill(load, 0);
            Arrays.fill(held, 0);
            Arrays.fill(inside, 0);
            for (int t = 0; t < isle.things; t++) {
                int place = where[t];
                if (place <= BEACH) load[place] += isle.weight[t];
                else inside[place - FIRST_BAG]++;
                held[whom(t)] |= 1 << t;
            }
        }

        /** With whom a THING is in the end; no BAG lies in a BAG. */
        int whom(int t) {
            if (t < 0 || t >= where.length) return BEACH;
            int b = where[t] - FIRST_BAG;
            if (b < 0) return where[t];
            return b < isle.bags ? where[isle.bag[b]] : BEACH;
        }

        int loadOf(int p) {
            return p >= 0 && p <= BEACH ? load[p] : 0;
        }

        int heldBy(int p) {
            return p >= 0 && p <= BEACH ? held[p] : 0;
        }

        int inBag(int t) {
            return inside[t == isle.bag[0] ? 0 : 1];
        }

        int heaviest() {
            int most = 0;
            for (int p = 0; p < isle.people; p++) most = Math.max(most, load[p]);
            return most;
        }

        private boolean fits(int t, int to) {
            return to == BEACH || load[to] + isle.weight[t] <= limit;
        }

        /** Where a THING can go by one STEP (bits). */
        int targets(int t) {
            int place = where[t];
            if (place >= FIRST_BAG) {
                int out = whom(t);
                return fits(t, out) ? 1 << out : 0;
            }
            int mask = 0;
            for (int p = 0; p < isle.people; p++) {
                if (fits(t, p)) mask |= 1 << p;
            }
            if (isle.isLiving(t)) return mask & ~(1 << place);
            mask |= 1 << BEACH;
            if (!isle.isBag(t)) mask |= openBags(place);
            return mask & ~(1 << place);
        }

        private int openBags(int place) {
            int mask = 0;
            for (int b = 0; b < isle.bags; b++) {
                int bag = isle.bag[b];
                if (where[bag] == place && inside[b] < isle.room[bag]) mask |= 1 << FIRST_BAG + b;
            }
            return mask;
        }

        boolean allows(int t, int to) {
            return isle.isStep(t, to) && (targets(t) >> to & 1) != 0;
        }

        /** Whether the places alone, however come to, are as KINDS and LIMIT ask. */
        boolean canBe() {
            for (int t = 0; t < isle.things; t++) {
                if (isle.isLiving(t) && where[t] >= BEACH) return false;
                if (isle.isBag(t) && where[t] >= FIRST_BAG) return false;
            }
            tally();
            for (int b = 0; b < isle.bags; b++) {
                if (inside[b] > isle.room[isle.bag[b]]) return false;
            }
            return heaviest() <= limit;
        }

        /** WORKS (bits) that can be done. */
        int doable() {
            int works = 0;
            for (int w = 0; w < isle.works; w++) {
                if ((isle.wants[w] & ~held[isle.who[w]]) == 0) works |= 1 << w;
            }
            return works;
        }

        /** What one LEAVES (bits) to be given a THING by THEFT; NONE: it can't be given. */
        int droppedFor(int t, int q) {
            if (!isle.isThing(t) || !isle.isPerson(q)) return NONE;
            int over = load[q] + isle.weight[t] - limit;
            int dropped = 0;
            for (int u = 0; u < isle.things && over > 0; u++) {
                if (where[u] != q || isle.isLiving(u)) continue;
                dropped |= 1 << u;
                over -= isle.weight[u];
            }
            return over > 0 ? NONE : dropped;
        }
    }

    /** Pairs of numbers, one behind the other, as many as there is room for. */
    private static final class Pairs {
        int count;
        private final int[] first;
        private final int[] second;

        Pairs(int room) {
            first = new int[room];
            second = new int[room];
        }

        boolean isFull() {
            return count >= first.length;
        }

        void add(int one, int other) {
            if (isFull()) return;
            first[count] = one;
            second[count] = other;
            count++;
        }

        int firstOf(int i) {
            return i >= 0 && i < count ? first[i] : 0;
        }

        int secondOf(int i) {
            return i >= 0 && i < count ? second[i] : 0;
        }
    }

    /** States in the order in which a search comes to them, and how. */
    private static final class States {
        int count;
        final int[] code = new int[STATES];
        /** The state that each was come to from, by which STEP, and by how many in all. */
        final int[] before = new int[STATES];
        final int[] by = new int[STATES];
        final int[] depth = new int[STATES];
        /** By a state's number its place in this order, and 1 more; 0: not come to. */
        private final int[] order = new int[CODES];

        void begin(int start) {
            for (int i = 0; i < count; i++) order[code[i]] = 0;
            count = 0;
            reach(start, 0, 0, 0);
        }

        /** The place in the order of a state, new or not. */
        int reach(int ofCode, int from, int step, int steps) {
            if (ofCode < 0 || ofCode >= CODES) return 0;
            if (order[ofCode] > 0) return order[ofCode] - 1;
            if (count >= STATES) return 0;
            code[count] = ofCode;
            before[count] = from;
            by[count] = step;
            depth[count] = steps;
            order[ofCode] = count + 1;
            return count++;
        }
    }

    /**
     * What STEPS lead to, nearest first. States are met in the order of the first row of fewest STEPS to each, since
     * those before them are, and STEPS are tried by their numbers. The search goes no farther than it is asked to,
     * and goes on from there as long as it is asked of the same state.
     */
    private static final class Search {
        private final Island isle;
        private final States states;
        private final Places places;
        private final int[] wanted = new int[THINGS];
        /** Of each state those ahead of it that are one STEP away: once a pair, since one STEP takes another back. */
        final int[] near = new int[PAIRS];
        final int[] nearEnd = new int[STATES];
        private int nearCount;
        private int expanded;
        private int startCode;
        private int startLimit;

        Search(Island isle, States states) {
            this.isle = isle;
            this.states = states;
            places = new Places(isle);
        }

        /** The states found are not (or no longer) those of a search from a start. */
        void spoil() {
            startLimit = 0;
        }

        void begin(int code, int limit) {
            if (startLimit == limit && startCode == code) return;
            startCode = code;
            startLimit = limit;
            expanded = 0;
            nearCount = 0;
            places.limit = limit;
            states.begin(code);
        }

        /** All states come to by so many STEPS have their neighbours. */
        void expandTo(int steps) {
            for (int i = expanded; i < STATES && i < states.count && states.depth[i] <= steps; i++) expand(i);
        }

        private void expand(int i) {
            int code = states.code[i];
            places.decode(code);
            for (int t = 0; t < isle.things; t++) {
                int mask = places.targets(t);
                for (int to = 0; to < PLACES; to++) {
                    if ((mask >> to & 1) != 0) meet(i, PLACES * t + to, code + (to - places.where[t]) * SEVENS[t]);
                }
            }
            nearEnd[i] = nearCount;
            expanded = i + 1;
        }

        private void meet(int i, int step, int code) {
            int j = states.reach(code, i, step, states.depth[i] + 1);
            if (j < i && nearCount < PAIRS) near[nearCount++] = j;
        }

        /** Whether there is a state at a place of the order, searched for as far as that takes. */
        private boolean has(int i) {
            for (int j = expanded; j < STATES && j < states.count && i >= states.count; j++) expand(j);
            return i < states.count;
        }

        int found() {
            return states.count;
        }

        private boolean isFound(int i) {
            return i >= 0 && i < states.count;
        }

        int depthOf(int i) {
            return isFound(i) ? states.depth[i] : 0;
        }

        int codeOf(int i) {
            return isFound(i) ? states.code[i] : 0;
        }

        int stepTo(int i) {
            return isFound(i) ? states.by[i] : 0;
        }

        int stateBefore(int i) {
            return isFound(i) ? states.before[i] : 0;
        }

        /** A THING is wanted with one, on the BEACH, or (-1) anywhere. */
        void want(int t, int p) {
            if (isle.isThing(t)) wanted[t] = p;
        }

        int firstAsWanted() {
            for (int i = 0; i < STATES && has(i); i++) {
                if (asWanted(i)) return i;
            }
            return NONE;
        }

        /** How many states as wanted are as near as one of them. */
        int asNear(int first) {
            int n = 0;
            for (int i = first; i < STATES && has(i) && states.depth[i] == states.depth[first]; i++) {
                if (asWanted(i)) n++;
            }
            return n;
        }

        private boolean asWanted(int i) {
            places.decode(states.code[i]);
            for (int t = 0; t < isle.things; t++) {
                if (wanted[t] >= 0 && places.whom(t) != wanted[t]) return false;
            }
            return true;
        }

        int firstDoing(int w) {
            for (int i = 0; i < STATES && has(i); i++) {
                places.decode(states.code[i]);
                if ((places.doable() >> w & 1) != 0) return i;
            }
            return NONE;
        }
    }

    /** The most WORTH of a DAY: what the best way to each state has brought, HOUR by HOUR. */
    private static final class Days {
        private final Island isle;
        private final Search search;
        private final Places places;
        private final int[] best = new int[STATES];
        private final int[] next = new int[STATES];
        private final int[] doable = new int[STATES];

        Days(Island isle, Search search) {
            this.isle = isle;
            this.search = search;
            places = new Places(isle);
        }

        int best(int code, int limit, int ahead) {
            int last = isle.lastHour();
            if (last < 0) return 0;
            search.begin(code, limit);
            search.expandTo(ahead * (last + 1));
            best[0] = 0;
            int end = takeOn(0, 0);
            for (int h = 0; h <= last; h++) {
                for (int k = 1; k <= ahead; k++) {
                    end = takeOn(end, h * ahead + k);
                    spread(end);
                }
                gain(isle.byHour[h], end);
            }
            int most = 0;
            for (int i = 0; i < end; i++) most = Math.max(most, best[i]);
            return most;
        }

        /** States that so many STEPS can have come to join the others, as not come to yet (but the first). */
        private int takeOn(int from, int steps) {
            for (int i = from; i < STATES; i++) {
                if (i >= search.found() || search.depthOf(i) > steps) return i;
                if (i > 0) best[i] = -1;
                places.decode(search.codeOf(i));
                doable[i] = places.doable();
            }
            return STATES;
        }

        /** One STEP, or none, from each state. */
        private void spread(int end) {
            System.arraycopy(best, 0, next, 0, end);
            int k = 0;
            for (int i = 0; i < end; i++) {
                int here = best[i];
                int most = next[i];
                for (; k < search.nearEnd[i]; k++) {
                    int j = search.near[k];
                    if (best[j] > most) most = best[j];
                    if (here > next[j]) next[j] = here;
                }
                next[i] = most;
            }
            System.arraycopy(next, 0, best, 0, end);
        }

        private void gain(int works, int end) {
            if (works == 0) return;
            for (int i = 0; i < end; i++) best[i] += isle.worthOf(doable[i] & works);
        }
    }

    /** THEFT: what one can come to have alone. */
    private static final class Theft {
        private final Island isle;
        private final States states;
        private final Search search;
        private final Places places;

        Theft(Island isle, States states, Search search) {
            this.isle = isle;
            this.states = states;
            this.search = search;
            places = new Places(isle);
        }

        int fewestFor(Places from, int p, int t) {
            begin(from);
            for (int i = 0; i < STATES && i < states.count; i++) {
                places.decode(states.code[i]);
                if (places.whom(t) == p) return states.depth[i];
                if (states.depth[i] < MOST_THEFT) expand(i, p);
            }
            return NONE;
        }

        int within(Places from, int p, int steps) {
            int set = 0;
            begin(from);
            for (int i = 0; i < STATES && i < states.count; i++) {
                places.decode(states.code[i]);
                set |= places.heldBy(p);
                if (states.depth[i] < steps) expand(i, p);
            }
            return set;
        }

        /** The states are the search's, too: what it has found is gone. */
        private void begin(Places from) {
            search.spoil();
            places.limit = from.limit;
            states.begin(from.code());
        }

        /** The STEPS of one from a state, which places hold already. */
        private void expand(int i, int p) {
            for (int t = 0; t < isle.things; t++) {
                int place = places.where[t];
                if (place == p) {
                    for (int q = 0; q < isle.people; q++) give(i, t, q);
                    if (!isle.isLiving(t)) reach(i, shift(t, BEACH));
                } else if (place == BEACH && places.fits(t, p)) {
                    reach(i, shift(t, p));
                }
            }
        }

        private void give(int i, int t, int q) {
            if (q == places.where[t]) return;
            int dropped = places.droppedFor(t, q);
            if (dropped == NONE) return;
            int change = shift(t, q);
            for (int u = 0; u < isle.things; u++) {
                if ((dropped >> u & 1) != 0) change += shift(u, BEACH);
            }
            reach(i, change);
        }

        /** By how much a state's number changes, if a THING goes to a place. */
        private int shift(int t, int to) {
            return (to - places.where[t]) * SEVENS[t];
        }

        private void reach(int i, int change) {
            states.reach(states.code[i] + change, i, 0, states.depth[i] + 1);
        }
    }
}
