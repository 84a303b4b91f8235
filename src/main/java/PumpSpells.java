import java.util.Arrays;

/** Spells at the pump of a leaking SHIP, as ../shared/DOC.md promises them. */
public final class PumpSpells {
    public static final int BAD = -1, FULL = -2, FINDING = -3, STATE = -4, SPENT = -6, NONE = -9;

    private static final int NOTHING = 1, BEYOND = 2, UNLIKE = 3, NOUGHT = 4, SIZE = 5;

    private static final int ROWS = 6, PLACES = 40, TEXTS = 4, BYTES = 60, KEPT = 3;
    private static final int BLANK = 32, LETTER_W = 119, FIGURE_0 = 48;

    private static final int RACING = 1, SUNG = 2, FEIGNED = 3, LAST = 4, CHOIR = 5, KINDS = 6;
    private static final int[] LETTERS = {103, 114, 115, 102, 108, 99};
    private static final int[] PUMPS = {6, 9, 6, 3, 9, 7};
    private static final int RACING_COSTS = 4;
    private static final int[] COSTS = {2, RACING_COSTS, 1, 2, RACING_COSTS, 1};
    private static final int[] CHOKES = {1, 2, 1, 1, 2, 1};

    private static final int GANGS = 6, ACTS = 10, CLEAR = 6, THROW = 7, SAIL = 8, REST = 9;
    private static final int BRIM = 99, HOURS = 40, FORCE = 9, LEAKS = 9, CHOKED = 5;
    private static final int PLAN = 4, ROTA = 12, WATCH = 3, INCHES = 20, CHANCES = 8, LOTS = 20;
    private static final int TWELFTHS = 12;
    private static final long LOT_TIMES = 48271L, LOT_MODULUS = 2147483647L;

    private final Row[] rows = new Row[ROWS];
    private final Text[] texts = new Text[TEXTS];
    private final Voyage now = new Voyage();
    private final Voyage[] kept = new Voyage[KEPT];
    private final Ship ship = now.ship;
    private final Ship aside = new Ship();
    private final Reader reader = new Reader();
    private final Search search = new Search();
    private final int[] trial = new int[WATCH];
    private final int[] answered = new int[SIZE + 1];
    private int latest = 0;
    private int told = 0;
    private long above = 0;
    private long below = 1;

    public PumpSpells() {
        for (int r = 0; r < ROWS; r++) {
            rows[r] = new Row();
        }
        for (int t = 0; t < TEXTS; t++) {
            texts[t] = new Text();
        }
        for (int k = 0; k < KEPT; k++) {
            kept[k] = new Voyage();
        }
    }

    // ---- 1 rows, texts, ships

    public int row(int r, int n) {
        if (!isRow(r) || n > PLACES) {
            return BAD;
        }
        if (n < 0) {
            return find(SIZE);
        }
        rows[r].renew(n);
        return n;
    }

    public int lay(int r, int i, int v) {
        if (!isRow(r)) {
            return BAD;
        }
        int wrong = rows[r].findingAt(i);
        if (wrong != 0) {
            return find(wrong);
        }
        told = rows[r].places[i];
        rows[r].places[i] = v;
        return 1;
    }

    public int at(int r, int i) {
        if (!isRow(r)) {
            return BAD;
        }
        int wrong = rows[r].findingAt(i);
        if (wrong != 0) {
            return find(wrong);
        }
        told = rows[r].places[i];
        return 1;
    }

    public int tear(int r) {
        if (!isRow(r)) {
            return BAD;
        }
        if (rows[r].isMissing()) {
            return find(NOTHING);
        }
        rows[r].size = -1;
        return 1;
    }

    public int copy(int r, int i, int to, int j, int n) {
        if (!isRow(r) || !isRow(to)) {
            return BAD;
        }
        if (n < 0) {
            return find(SIZE);
        }
        Row from = rows[r];
        Row into = rows[to];
        if (from.isMissing() || into.isMissing()) {
            return find(NOTHING);
        }
        if (!from.hasRun(i, n) || !into.hasRun(j, n)) {
            return find(BEYOND);
        }
        System.arraycopy(from.places, i, into.places, j, n);
        return 1;
    }

    public int mean(int r) {
        if (!isRow(r)) {
            return BAD;
        }
        Row row = rows[r];
        if (row.isMissing()) {
            return find(NOTHING);
        }
        if (row.size == 0) {
            return find(NOUGHT);
        }
        told = (int) (row.sum() / row.size);
        return 1;
    }

    public int text(int t, int n) {
        if (!isText(t) || n > BYTES) {
            return BAD;
        }
        if (n < 0) {
            return find(SIZE);
        }
        texts[t].renew(n);
        return n;
    }

    public int put(int t, int i, int v) {
        if (!isText(t)) {
            return BAD;
        }
        int wrong = texts[t].findingAt(i);
        if (wrong != 0) {
            return find(wrong);
        }
        int was = texts[t].bytes[i];
        texts[t].bytes[i] = (byte) v;
        return was + 1000;
    }

    public int fault(int t) {
        if (!isText(t)) {
            return BAD;
        }
        if (texts[t].isMissing()) {
            return find(NOTHING);
        }
        return reader.findFault(texts[t]);
    }

    public int ship(int t) {
        if (!isText(t)) {
            return BAD;
        }
        if (texts[t].isMissing()) {
            return find(NOTHING);
        }
        if (reader.findFault(texts[t]) != NONE) {
            return STATE;
        }
        ship.follow(reader.read);
        for (int k = 0; k < KEPT; k++) {
            kept[k].isThere = false;
        }
        return ship.gangs;
    }

    public int gang(int i, int what) {
        if (!ship.has(i) || what < 0 || what > 4) {
            return BAD;
        }
        told = ofGang(i, what);
        return 1;
    }

    public int mark(int i, int kind) {
        if (!ship.has(i) || kind < RACING || kind > CHOIR) {
            return BAD;
        }
        int own = ship.kinds[i];
        if (!isOf(own, kind)) {
            return find(UNLIKE);
        }
        int strength = ship.strengths[i];
        switch (kind) {
            case RACING:
                return strength / RACING_COSTS;
            case SUNG:
                return Math.max(0, strength - 3);
            case FEIGNED:
                return ship.wouldPump(0, strength) - ship.wouldPump(own, strength);
            case LAST:
                return ship.wouldPump(own, 0);
            default:
                return ship.countSingers();
        }
    }

    public int force(int i, int v) {
        if (!ship.has(i) || v < 1 || v > FORCE) {
            return BAD;
        }
        int was = ship.forces[i];
        ship.forces[i] = v;
        ship.limitStrengths();
        return was;
    }

    // ---- 2 hours

    public int tell(int what) {
        if (what < 0 || what > 8) {
            return BAD;
        }
        if (ship.gangs == 0) {
            return STATE;
        }
        told = ofShip(what);
        return 1;
    }

    public int can() {
        return ship.gangs == 0 ? STATE : ship.setOfActs();
    }

    public int act(int a) {
        if (!isAct(a)) {
            return BAD;
        }
        if (!ship.canNow(a)) {
            return STATE;
        }
        now.pass(a);
        return ship.water;
    }

    public int undo(int n) {
        if (n < 0 || n > ship.passed) {
            return BAD;
        }
        int undone = ship.passed - n;
        if (undone > 0) {
            now.goBack(n);
        }
        return undone;
    }

    public int keep(int k) {
        if (!isKept(k)) {
            return BAD;
        }
        if (ship.gangs == 0) {
            return STATE;
        }
        kept[k].follow(now);
        kept[k].isThere = true;
        return ship.passed;
    }

    public int on(int k) {
        if (!isKept(k)) {
            return BAD;
        }
        if (!kept[k].isThere) {
            return find(NOTHING);
        }
        now.follow(kept[k]);
        return ship.passed;
    }

    // ---- 3 plans (aside)

    public int run(int r) {
        if (!isRow(r)) {
            return BAD;
        }
        if (ship.gangs == 0) {
            return STATE;
        }
        Row plan = rows[r];
        if (plan.isMissing()) {
            return find(NOTHING);
        }
        if (!plan.isOfActs()) {
            return find(UNLIKE);
        }
        aside.follow(ship);
        int first = aside.passPlan(plan);
        told = aside.water;
        return first;
    }

    public int best(int n, int r) {
        if (n < 0 || n > PLAN || !isRow(r)) {
            return BAD;
        }
        if (ship.gangs == 0) {
            return STATE;
        }
        search.start(ship, n);
        if (search.many == 0) {
            return NONE;
        }
        rows[r].take(search.best, n);
        return search.least;
    }

    public int afloat(int n) {
        if (n < 0 || n > PLAN) {
            return BAD;
        }
        if (ship.gangs == 0) {
            return STATE;
        }
        search.start(ship, n);
        tellChance(search.many, 1);
        return 1;
    }

    public int firsts(int n) {
        if (n < 1 || n > PLAN) {
            return BAD;
        }
        if (ship.gangs == 0) {
            return STATE;
        }
        search.start(ship, n);
        return search.first;
    }

    // ---- 4 rotas (aside; an ACT that can't be is 9 then)

    public int rota(int r) {
        if (!isRow(r)) {
            return BAD;
        }
        if (ship.gangs == 0) {
            return STATE;
        }
        Row acts = rows[r];
        if (acts.isMissing()) {
            return find(NOTHING);
        }
        if (acts.size == 0 || acts.size > ROTA) {
            return find(SIZE);
        }
        if (!acts.isOfActs()) {
            return find(UNLIKE);
        }
        aside.follow(ship);
        aside.passRota(acts.places, acts.size);
        told = aside.passed - ship.passed;
        return aside.isSunk() ? NONE : aside.water;
    }

    public int watch(int n, int r) {
        if (n < 1 || n > WATCH || !isRow(r)) {
            return BAD;
        }
        if (ship.gangs == 0) {
            return STATE;
        }
        int most = tenTo(n);
        int least = NONE;
        int found = 0;
        // no ROTA is better than one without WATER at LAND: the first such ends the search
        for (int number = 0; number < most && least != 0; number++) {
            spellOut(number, n);
            aside.follow(ship);
            aside.passRota(trial, n);
            if (!aside.isSunk() && (least == NONE || aside.water < least)) {
                least = aside.water;
                found = number;
            }
        }
        if (least != NONE) {
            spellOut(found, n);
            rows[r].take(trial, n);
        }
        return least;
    }

    public int lasts(int a) {
        if (!isAct(a)) {
            return BAD;
        }
        if (ship.gangs == 0) {
            return STATE;
        }
        if (ship.isSunk()) {
            return 0;
        }
        aside.follow(ship);
        aside.passAgain(a, HOURS);
        int hours = aside.passed - ship.passed;
        return aside.isSunk() ? hours - 1 : hours;
    }

    public int inches(int a, int b, int n) {
        if (!isAct(a) || !isAct(b) || n < 0 || n > INCHES) {
            return BAD;
        }
        if (ship.gangs == 0) {
            return STATE;
        }
        told = waterBehind(b, n) - waterBehind(a, n);
        return 1;
    }

    public int lighten(int a) {
        if (!isAct(a)) {
            return BAD;
        }
        if (ship.gangs == 0) {
            return STATE;
        }
        for (int k = 0; k <= ship.cargo; k++) {
            aside.follow(ship);
            aside.cargo -= k;
            aside.thrown += k;
            aside.passAgain(a, HOURS);
            if (!aside.isSunk()) {
                return k;
            }
        }
        return NONE;
    }

    public int rest(int i) {
        return ship.has(i) ? ship.forces[i] - ship.strengths[i] : BAD;
    }

    // ---- 5 sounded

    public int gains(int r) {
        if (!isRow(r)) {
            return BAD;
        }
        Row soundings = rows[r];
        if (soundings.isMissing()) {
            return find(NOTHING);
        }
        if (soundings.size < 2) {
            return find(SIZE);
        }
        // each of the two may be wrong by one, so that a difference of two tells nothing
        long more = (long) soundings.places[soundings.size - 1] - soundings.places[0];
        if (more > 2) {
            return 1;
        }
        return more < -2 ? 2 : 0;
    }

    public int feigns(int r) {
        if (!isRow(r)) {
            return BAD;
        }
        if (ship.gangs == 0) {
            return STATE;
        }
        int wrong = findingOfPairs(rows[r]);
        if (wrong != 0) {
            return find(wrong);
        }
        int set = 0;
        for (int i = 0; i < ship.gangs; i++) {
            if (isSoIfOf(i, FEIGNED, rows[r])) {
                set |= 1 << i;
            }
        }
        aside.follow(ship);
        told = aside.isSo(rows[r]) ? 1 : 0;
        return set;
    }

    public int kinds(int i, int r) {
        if (!ship.has(i) || !isRow(r)) {
            return BAD;
        }
        int wrong = findingOfPairs(rows[r]);
        if (wrong != 0) {
            return find(wrong);
        }
        int set = 0;
        for (int kind = 0; kind < KINDS; kind++) {
            if (isSoIfOf(i, kind, rows[r])) {
                set |= 1 << kind;
            }
        }
        return set;
    }

    public int leaks(int r) {
        if (!isRow(r)) {
            return BAD;
        }
        if (ship.gangs == 0) {
            return STATE;
        }
        int wrong = findingOfPairs(rows[r]);
        if (wrong != 0) {
            return find(wrong);
        }
        int set = 0;
        for (int leak = 1; leak <= LEAKS; leak++) {
            aside.follow(ship);
            aside.leak = leak;
            if (aside.isSo(rows[r])) {
                set |= 1 << leak;
            }
        }
        return set;
    }

    // ---- 6 by chance, by lots

    public int odds(int a, int n, int p) {
        if (!isChance(a, n, p)) {
            return BAD;
        }
        if (ship.gangs == 0) {
            return STATE;
        }
        tellChance(weigh(a, n, p, false), twelveTo(n));
        return 1;
    }

    public int mid(int a, int n, int p) {
        if (!isChance(a, n, p)) {
            return BAD;
        }
        if (ship.gangs == 0) {
            return STATE;
        }
        tellChance(weigh(a, n, p, true), twelveTo(n));
        return 1;
    }

    public int lots(int n, int seed) {
        if (n < 1 || n > LOTS || seed < 1 || seed >= LOT_MODULUS) {
            return BAD;
        }
        if (ship.gangs == 0) {
            return STATE;
        }
        int from = ship.passed;
        long number = seed;
        for (int h = 0; h < n && !ship.isOver(); h++) {
            number = LOT_TIMES * number % LOT_MODULUS;
            now.pass(drawAct(ship.setOfActs(), number));
        }
        return ship.passed - from;
    }

    // ---- 7 what is told

    public int asked() {
        return told;
    }

    public long upper() {
        return above;
    }

    public long lower() {
        return below;
    }

    public int count(int what) {
        return what < 0 || what > 8 ? BAD : tally(what);
    }

    public int finding() {
        return latest;
    }

    public int findings(int f) {
        return f < NOTHING || f > SIZE ? BAD : answered[f];
    }

    public long digest() {
        long h = 17;
        for (int what = 0; what <= 8; what++) {
            h = 31 * h + tally(what);
        }
        h = digestShip(h);
        for (int k = 0; k < KEPT; k++) {
            h = 31 * h + (kept[k].isThere ? kept[k].ship.passed : -1);
        }
        for (int r = 0; r < ROWS; r++) {
            h = rows[r].digestOn(h);
        }
        for (int t = 0; t < TEXTS; t++) {
            h = texts[t].digestOn(h);
        }
        return h;
    }

    // ---- what the calls share

    private static boolean isRow(int r) {
        return r >= 0 && r < ROWS;
    }

    private static boolean isText(int t) {
        return t >= 0 && t < TEXTS;
    }

    private static boolean isKept(int k) {
        return k >= 0 && k < KEPT;
    }

    private static boolean isAct(int a) {
        return a >= 0 && a < ACTS;
    }

    private static boolean isChance(int a, int n, int p) {
        return isAct(a) && n >= 0 && n <= CHANCES && p >= 0 && p <= TWELFTHS;
    }

    /** Whether a GANG of one KIND IS of another: a LAST one is a RACING one, a CHOIR a SUNG one. */
    private static boolean isOf(int own, int kind) {
        return own == kind || own == LAST && kind == RACING || own == CHOIR && kind == SUNG;
    }

    private static int entry(int[] table, int i) {
        return i >= 0 && i < table.length ? table[i] : 0;
    }

    private int find(int f) {
        latest = f;
        if (f >= NOTHING && f <= SIZE) {
            answered[f]++;
        }
        return FINDING;
    }

    private int ofGang(int i, int what) {
        int kind = ship.kinds[i];
        int strength = ship.strengths[i];
        switch (what) {
            case 0:
                return kind;
            case 1:
                return ship.forces[i];
            case 2:
                return strength;
            case 3:
                return ship.wouldPump(kind, strength);
            default:
                return strengthBehind(kind, strength);
        }
    }

    private int ofShip(int what) {
        switch (what) {
            case 0:
                return ship.water;
            case 1:
                return ship.wouldLeak();
            case 2:
                return ship.cargo;
            case 3:
                return ship.thrown;
            case 4:
                return ship.isSailSet ? 1 : 0;
            case 5:
                return ship.choke;
            case 6:
                return ship.passed;
            case 7:
                return ship.hours - ship.passed;
            default:
                return ship.isSunk() ? 1 : 0;
        }
    }

    private int tally(int what) {
        switch (what) {
            case 0:
                return ship.gangs;
            case 1:
                return ship.water;
            case 2:
                return ship.passed;
            case 3:
                return ship.sumStrengths();
            case 4:
                return ship.countOf(RACING);
            case 5:
                return ship.countOf(SUNG);
            case 6:
                return countRows();
            case 7:
                return countTexts();
            default:
                return countKept();
        }
    }

    private int countRows() {
        int n = 0;
        for (int r = 0; r < ROWS; r++) {
            n += rows[r].isMissing() ? 0 : 1;
        }
        return n;
    }

    private int countTexts() {
        int n = 0;
        for (int t = 0; t < TEXTS; t++) {
            n += texts[t].isMissing() ? 0 : 1;
        }
        return n;
    }

    private int countKept() {
        int n = 0;
        for (int k = 0; k < KEPT; k++) {
            n += kept[k].isThere ? 1 : 0;
        }
        return n;
    }

    private long digestShip(long from) {
        if (ship.gangs == 0) {
            return from;
        }
        long h = from;
        for (int what = 0; what <= 8; what++) {
            h = 31 * h + ofShip(what);
        }
        for (int i = 0; i < ship.gangs; i++) {
            for (int what = 0; what <= 4; what++) {
                h = 31 * h + ofGang(i, what);
            }
        }
        return h;
    }

    private static int strengthBehind(int kind, int strength) {
        return Math.max(0, strength - entry(COSTS, kind));
    }

    private int waterBehind(int a, int n) {
        aside.follow(ship);
        aside.passAgain(a, n);
        return aside.water;
    }

    private static int tenTo(int n) {
        int power = 1;
        for (int i = 0; i < n; i++) {
            power *= 10;
        }
        return power;
    }

    private static long twelveTo(int n) {
        long power = 1;
        for (int i = 0; i < n; i++) {
            power *= TWELFTHS;
        }
        return power;
    }

    /** The figures of a number are the ACTS of a ROTA, so that numbers go as ROTAS do. */
    private void spellOut(int number, int n) {
        int left = number;
        for (int i = Math.min(n, WATCH) - 1; i >= 0; i--) {
            trial[i] = left % 10;
            left /= 10;
        }
    }

    /** The FINDING for a ROW that should hold ACTS and WATER by pairs; 0: none. */
    private int findingOfPairs(Row pairs) {
        if (pairs.isMissing()) {
            return NOTHING;
        }
        if (pairs.size % 2 != 0) {
            return SIZE;
        }
        aside.follow(ship);
        for (int i = 0; i < pairs.size; i += 2) {
            int a = pairs.places[i];
            if (aside.isTimeUp() || !aside.allows(a)) {
                return UNLIKE;
            }
            aside.pass(a);
        }
        return 0;
    }

    private boolean isSoIfOf(int i, int kind, Row pairs) {
        aside.follow(ship);
        aside.kinds[i] = kind;
        return aside.isSo(pairs);
    }

    /**
     * Goes through all ways in which n HOURS choke or don't, each by its weight (of 12 to the n):
     * the sum of WATER (SUNK: 100), or the weight of those that are not SUNK.
     */
    private long weigh(int a, int n, int p, boolean byWater) {
        long sum = 0;
        for (int way = 0; way < 1 << n; way++) {
            long weight = 1;
            aside.follow(ship);
            for (int h = 0; h < n; h++) {
                boolean chokes = (way >> h & 1) != 0;
                weight *= chokes ? p : TWELFTHS - p;
                aside.passByChance(a, chokes);
            }
            if (byWater) {
                sum += weight * Math.min(aside.water, BRIM + 1);
            } else if (!aside.isSunk()) {
                sum += weight;
            }
        }
        return sum;
    }

    private void tellChance(long part, long whole) {
        long shared = commonDivisor(part, whole);
        above = shared > 0 ? part / shared : part;
        below = shared > 0 ? whole / shared : whole;
    }

    private static long commonDivisor(long x, long y) {
        long a = x;
        long b = y;
        // Euclid's steps on longs are fewer than a hundred
        for (int step = 0; step < 100 && b != 0; step++) {
            long left = a % b;
            a = b;
            b = left;
        }
        return a;
    }

    private static int drawAct(int set, long number) {
        int many = Integer.bitCount(set);
        int left = many > 0 ? (int) (number % many) : 0;
        for (int a = 0; a < ACTS; a++) {
            if ((set >> a & 1) != 0) {
                if (left == 0) {
                    return a;
                }
                left--;
            }
        }
        return REST;
    }

    /** What ROWS and TEXTS have in common: a size, below 0 while it is missing. */
    private abstract static class Strip {
        int size = -1;

        abstract int valueAt(int i);

        boolean isMissing() {
            return size < 0;
        }

        boolean has(int i) {
            return i >= 0 && i < size;
        }

        /** The FINDING for a place; 0: none. */
        int findingAt(int i) {
            if (isMissing()) {
                return NOTHING;
            }
            return has(i) ? 0 : BEYOND;
        }

        long digestOn(long from) {
            long h = 31 * from + size;
            for (int i = 0; i < size; i++) {
                h = 31 * h + valueAt(i);
            }
            return h;
        }
    }

    private static final class Row extends Strip {
        final int[] places = new int[PLACES];

        int valueAt(int i) {
            return has(i) ? places[i] : 0;
        }

        boolean hasRun(int i, int n) {
            return i >= 0 && n >= 0 && i <= size && n <= size - i;
        }

        void renew(int n) {
            size = Math.max(0, Math.min(n, PLACES));
            Arrays.fill(places, 0, size, 0);
        }

        void take(int[] from, int n) {
            renew(Math.min(n, from.length));
            System.arraycopy(from, 0, places, 0, size);
        }

        long sum() {
            long sum = 0;
            for (int i = 0; i < size; i++) {
                sum += places[i];
            }
            return sum;
        }

        boolean isOfActs() {
            for (int i = 0; i < size; i++) {
                if (!isAct(places[i])) {
                    return false;
                }
            }
            return true;
        }
    }

    private static final class Text extends Strip {
        final byte[] bytes = new byte[BYTES];

        int valueAt(int i) {
            return has(i) ? bytes[i] : 0;
        }

        void renew(int n) {
            size = Math.max(0, Math.min(n, BYTES));
            Arrays.fill(bytes, 0, size, (byte) BLANK);
        }
    }

    /** Reads a TEXT into a SHIP; where it can't go on it stays at that place. */
    private static final class Reader {
        final Ship read = new Ship();
        private Text text;
        private int place;

        int findFault(Text from) {
            text = from;
            place = 0;
            skipBlanks();
            if (!takesHull()) {
                return place;
            }
            skipBlanks();
            for (int n = 0; n < BYTES && place < from.size; n++) {
                if (!takesGang()) {
                    return place;
                }
                skipBlanks();
            }
            return read.gangs == 0 ? place : NONE;
        }

        private void skipBlanks() {
            for (int n = 0; n < BYTES && byteHere() == BLANK; n++) {
                place++;
            }
        }

        private int byteHere() {
            return text == null ? 0 : text.valueAt(place);
        }

        private boolean takesHull() {
            if (byteHere() != LETTER_W) {
                return false;
            }
            place++;
            int tens = takeFigure(0, 9);
            int ones = tens < 0 ? -1 : takeFigure(0, 9);
            int leak = ones < 0 ? -1 : takeFigure(1, 9);
            int cargo = leak < 0 ? -1 : takeFigure(0, 9);
            int hourTens = cargo < 0 ? -1 : takeFigure(0, 4);
            int hourOnes = hourTens < 0 ? -1 : takeFigure(hourTens == 0 ? 1 : 0, hourTens == 4 ? 0 : 9);
            if (hourOnes < 0) {
                return false;
            }
            read.launch(10 * tens + ones, leak, cargo, 10 * hourTens + hourOnes);
            return true;
        }

        /** The figure here, if it is from low to high, and one place on; else -1. */
        private int takeFigure(int low, int high) {
            int figure = byteHere() - FIGURE_0;
            if (figure < low || figure > high) {
                return -1;
            }
            place++;
            return figure;
        }

        private boolean takesGang() {
            int kind = kindHere();
            if (kind < 0 || read.gangs >= GANGS) {
                return false;
            }
            place++;
            int force = takeFigure(1, FORCE);
            if (force < 0) {
                return false;
            }
            read.enlist(kind, force);
            return true;
        }

        private int kindHere() {
            for (int kind = 0; kind < LETTERS.length; kind++) {
                if (LETTERS[kind] == byteHere()) {
                    return kind;
                }
            }
            return -1;
        }
    }

    /** A SHIP with its GANGS as it is between two HOURS; without GANGS there is none. */
    private static final class Ship {
        int water;
        int leak;
        int cargo;
        int thrown;
        int hours;
        int passed;
        int choke;
        boolean isSailSet;
        int gangs;
        final int[] kinds = new int[GANGS];
        final int[] forces = new int[GANGS];
        final int[] strengths = new int[GANGS];

        void launch(int inches, int leaking, int cargoes, int hoursToLand) {
            water = inches;
            leak = leaking;
            cargo = cargoes;
            thrown = 0;
            hours = hoursToLand;
            passed = 0;
            choke = 0;
            isSailSet = false;
            gangs = 0;
        }

        void enlist(int kind, int force) {
            if (gangs < GANGS) {
                kinds[gangs] = kind;
                forces[gangs] = force;
                strengths[gangs] = force;
                gangs++;
            }
        }

        void follow(Ship other) {
            water = other.water;
            leak = other.leak;
            cargo = other.cargo;
            thrown = other.thrown;
            hours = other.hours;
            passed = other.passed;
            choke = other.choke;
            isSailSet = other.isSailSet;
            gangs = other.gangs;
            System.arraycopy(other.kinds, 0, kinds, 0, GANGS);
            System.arraycopy(other.forces, 0, forces, 0, GANGS);
            System.arraycopy(other.strengths, 0, strengths, 0, GANGS);
        }

        boolean has(int i) {
            return i >= 0 && i < gangs;
        }

        boolean isSunk() {
            return water > BRIM;
        }

        boolean isTimeUp() {
            return passed >= hours;
        }

        boolean isOver() {
            return isSunk() || isTimeUp();
        }

        /** Whether an ACT can be by GANGS, CARGO and SAIL, whatever the WATER and the HOURS. */
        boolean allows(int a) {
            switch (a) {
                case CLEAR:
                case REST:
                    return true;
                case THROW:
                    return cargo > 0;
                case SAIL:
                    return !isSailSet;
                default:
                    return has(a);
            }
        }

        boolean canNow(int a) {
            return gangs > 0 && !isOver() && allows(a);
        }

        int setOfActs() {
            int set = 0;
            for (int a = 0; a < ACTS; a++) {
                if (canNow(a)) {
                    set |= 1 << a;
                }
            }
            return set;
        }

        int wouldPump(int kind, int strength) {
            int much = entry(PUMPS, kind);
            if (strength < entry(COSTS, kind) && kind != LAST) {
                much /= 2;
            }
            return choke >= CHOKED ? much / 3 : much;
        }

        int wouldLeak() {
            int much = Math.max(0, leak + water / 25 - thrown / 2);
            return isSailSet ? much / 2 : much;
        }

        /** An HOUR passes with an ACT that allows() has let through. */
        void pass(int a) {
            int leaked = wouldLeak();
            int pumped = has(a) ? wouldPump(kinds[a], strengths[a]) : 0;
            tire(a);
            if (has(a)) {
                choke += entry(CHOKES, kinds[a]);
            } else if (a == CLEAR) {
                choke = 0;
            } else if (a == THROW) {
                cargo--;
                thrown++;
            } else if (a == SAIL) {
                isSailSet = true;
            }
            water = Math.max(0, water + leaked - pumped);
            passed++;
        }

        /** The GANG at the pump, if any, loses STRENGTH; all others rest. */
        private void tire(int a) {
            for (int i = 0; i < gangs; i++) {
                if (i == a) {
                    strengths[i] = strengthBehind(kinds[i], strengths[i]);
                } else if (strengths[i] < forces[i]) {
                    strengths[i]++;
                }
            }
        }

        void passOrRest(int a) {
            pass(allows(a) ? a : REST);
        }

        void passByChance(int a, boolean chokes) {
            if (isOver()) {
                return;
            }
            if (chokes && has(a)) {
                choke = Math.max(choke, CHOKED);
            }
            passOrRest(a);
        }

        void passAgain(int a, int n) {
            for (int h = 0; h < n && !isOver(); h++) {
                passOrRest(a);
            }
        }

        void passRota(int[] acts, int n) {
            int next = 0;
            for (int h = 0; h < HOURS && !isOver(); h++) {
                passOrRest(entry(acts, next));
                next = next + 1 < n ? next + 1 : 0;
            }
        }

        /** HOURS pass by a PLAN up to the first ACT that can't be or sinks it: that one's number. */
        int passPlan(Row plan) {
            for (int i = 0; i < plan.size; i++) {
                if (!canNow(plan.places[i])) {
                    return i;
                }
                pass(plan.places[i]);
                if (isSunk()) {
                    return i;
                }
            }
            return plan.size;
        }

        /** Whether WATER behind each ACT is as the pairs of a ROW say. */
        boolean isSo(Row pairs) {
            for (int i = 0; i + 1 < pairs.size; i += 2) {
                pass(pairs.places[i]);
                if (water != pairs.places[i + 1]) {
                    return false;
                }
            }
            return true;
        }

        void limitStrengths() {
            for (int i = 0; i < gangs; i++) {
                strengths[i] = Math.min(strengths[i], forces[i]);
            }
        }

        int sumStrengths() {
            int sum = 0;
            for (int i = 0; i < gangs; i++) {
                sum += strengths[i];
            }
            return sum;
        }

        int countOf(int kind) {
            int n = 0;
            for (int i = 0; i < gangs; i++) {
                n += isOf(kinds[i], kind) ? 1 : 0;
            }
            return n;
        }

        int countSingers() {
            int n = 0;
            for (int i = 0; i < gangs; i++) {
                if (isOf(kinds[i], SUNG) && strengths[i] >= entry(COSTS, kinds[i])) {
                    n++;
                }
            }
            return n;
        }
    }

    /** A SHIP and what it was ahead of each HOUR that passed. */
    private static final class Voyage {
        private static final int STRIDE = 5 + GANGS;

        final Ship ship = new Ship();
        boolean isThere = false;
        private final int[] past = new int[HOURS * STRIDE];

        void follow(Voyage other) {
            ship.follow(other.ship);
            System.arraycopy(other.past, 0, past, 0, past.length);
        }

        void pass(int a) {
            int p = ship.passed * STRIDE;
            if (p < 0 || p + STRIDE > past.length) {
                return;
            }
            past[p] = ship.water;
            past[p + 1] = ship.cargo;
            past[p + 2] = ship.thrown;
            past[p + 3] = ship.choke;
            past[p + 4] = ship.isSailSet ? 1 : 0;
            System.arraycopy(ship.strengths, 0, past, p + 5, GANGS);
            ship.pass(a);
        }

        void goBack(int hour) {
            int p = hour * STRIDE;
            if (p < 0 || p + STRIDE > past.length) {
                return;
            }
            ship.water = past[p];
            ship.cargo = past[p + 1];
            ship.thrown = past[p + 2];
            ship.choke = past[p + 3];
            ship.isSailSet = past[p + 4] != 0;
            System.arraycopy(past, p + 5, ship.strengths, 0, GANGS);
            ship.passed = hour;
            ship.limitStrengths();
        }
    }

    /** Goes through all PLANS of a size in their order, with one SHIP a level. */
    private static final class Search {
        final int[] best = new int[PLAN];
        int least;
        int many;
        int first;
        private final Ship[] levels = new Ship[PLAN + 1];
        private final int[] trail = new int[PLAN];
        private int size;

        Search() {
            for (int d = 0; d <= PLAN; d++) {
                levels[d] = new Ship();
            }
        }

        void start(Ship from, int n) {
            size = Math.max(0, Math.min(n, PLAN));
            least = NONE;
            many = 0;
            first = 0;
            levels[0].follow(from);
            if (!from.isSunk()) {
                explore(this, 0);
            }
        }

        private static void explore(Search s, int depth) {
            if (depth >= s.size) {
                s.note();
                return;
            }
            Ship here = s.levels[depth];
            Ship next = s.levels[depth + 1];
            for (int a = 0; a < ACTS; a++) {
                if (here.canNow(a)) {
                    next.follow(here);
                    next.pass(a);
                    if (!next.isSunk()) {
                        s.trail[depth] = a;
                        explore(s, depth + 1);
                    }
                }
            }
        }

        private void note() {
            int water = levels[size].water;
            many++;
            if (size > 0) {
                first |= 1 << trail[0];
            }
            if (least == NONE || water < least) {
                least = water;
                System.arraycopy(trail, 0, best, 0, size);
            }
        }
    }
}
