import java.math.BigInteger;
import java.util.ArrayList;
import java.util.Arrays;
import java.util.List;
import java.util.TreeMap;

/**
 * The document told a second time, in another way than the program: SHIPS that never change, lists
 * of them for what passed, TEXTS read by a pattern, chances by sharing them out hour by hour.
 */
final class Model {
    static final int BAD = -1, FINDING = -3, STATE = -4, NONE = -9;
    private static final String LETTERS = "grsflc";

    /** A GANG as it is ahead of an hour. */
    record Crew(int kind, int force, int strength) {
        int most() {
            return kind == 1 || kind == 4 ? 9 : kind == 5 ? 7 : kind == 3 ? 3 : 6;
        }

        int cost() {
            return kind == 1 || kind == 4 ? 4 : kind == 2 || kind == 5 ? 1 : 2;
        }

        int pumps(int choke) {
            int much = strength >= cost() || kind == 4 ? most() : most() / 2;
            return choke < 5 ? much : much / 3;
        }

        Crew worked() {
            return new Crew(kind, force, strength >= cost() ? strength - cost() : 0);
        }

        Crew rested() {
            return new Crew(kind, force, strength == force ? force : strength + 1);
        }

        Crew as(int other) {
            return new Crew(other, force, strength);
        }

        Crew forced(int v) {
            return new Crew(kind, v, Math.min(v, strength));
        }
    }

    /** A SHIP ahead of an hour; crews is null where there is none. */
    record Hull(int water, int leak, int cargo, int thrown, boolean sail, int choke, int left, List<Crew> crews) {
        int leaks() {
            int much = leak + water / 25 - thrown / 2;
            if (much < 0) {
                much = 0;
            }
            return sail ? much / 2 : much;
        }

        boolean sunk() {
            return water >= 100;
        }

        boolean fits(int a) {
            if (a == 7) {
                return cargo != 0;
            }
            if (a == 8) {
                return !sail;
            }
            return a == 6 || a == 9 || a >= 0 && a < crews.size();
        }

        boolean can(int a) {
            return !sunk() && left > 0 && fits(a);
        }

        Hull choked(int c) {
            return new Hull(water, leak, cargo, thrown, sail, c, left, crews);
        }

        Hull leaking(int l) {
            return new Hull(water, l, cargo, thrown, sail, choke, left, crews);
        }

        Hull lighter(int k) {
            return new Hull(water, leak, cargo - k, thrown + k, sail, choke, left, crews);
        }

        Hull with(int i, Crew c) {
            List<Crew> others = new ArrayList<>(crews);
            others.set(i, c);
            return new Hull(water, leak, cargo, thrown, sail, choke, left, others);
        }

        Hull then(int a) {
            List<Crew> next = new ArrayList<>();
            for (int i = 0; i < crews.size(); i++) {
                next.add(i == a ? crews.get(i).worked() : crews.get(i).rested());
            }
            int w = water + leaks();
            int c = choke;
            if (a < crews.size()) {
                w -= crews.get(a).pumps(choke);
                c += crews.get(a).most() == 9 ? 2 : 1;
            }
            int t = a == 7 ? 1 : 0;
            return new Hull(Math.max(w, 0), leak, cargo - t, thrown + t, sail || a == 8, a == 6 ? 0 : c, left - 1, next);
        }

        Hull anyway(int a) {
            return then(fits(a) ? a : 9);
        }

        Hull again(int n, int... acts) {
            Hull h = this;
            for (int i = 0; i < n && !h.sunk() && h.left > 0; i++) {
                h = h.anyway(acts[i % acts.length]);
            }
            return h;
        }

        boolean so(int[] pairs) {
            Hull h = this;
            for (int i = 0; i < pairs.length; i += 2) {
                h = h.then(pairs[i]);
                if (h.water != pairs[i + 1]) {
                    return false;
                }
            }
            return true;
        }
    }

    private final int[][] rows = new int[6][];
    private final byte[][] texts = new byte[4][];
    private final List<List<Hull>> kept = new ArrayList<>(Arrays.asList(null, null, null));
    /** All SHIPS there were, the last one as it is now; empty without GANGS. */
    private List<Hull> log = new ArrayList<>();
    private final int[] often = new int[6];
    private int finding = 0;
    private int asked = 0;
    private long upper = 0;
    private long lower = 1;

    private int refuse(int f) {
        finding = f;
        often[f]++;
        return FINDING;
    }

    private boolean none() {
        return log.isEmpty();
    }

    private Hull hull() {
        return log.get(log.size() - 1);
    }

    private static boolean in(int v, int from, int to) {
        return v >= from && v <= to;
    }

    private boolean noCrew(int i) {
        return none() || !in(i, 0, hull().crews().size() - 1);
    }

    int row(int r, int n) {
        if (!in(r, 0, 5) || n > 40) {
            return BAD;
        }
        if (n < 0) {
            return refuse(5);
        }
        rows[r] = new int[n];
        return n;
    }

    int lay(int r, int i, int v) {
        int answer = at(r, i);
        if (answer == 1) {
            rows[r][i] = v;
        }
        return answer;
    }

    int at(int r, int i) {
        if (!in(r, 0, 5)) {
            return BAD;
        }
        if (rows[r] == null) {
            return refuse(1);
        }
        if (!in(i, 0, rows[r].length - 1)) {
            return refuse(2);
        }
        asked = rows[r][i];
        return 1;
    }

    int tear(int r) {
        if (!in(r, 0, 5)) {
            return BAD;
        }
        if (rows[r] == null) {
            return refuse(1);
        }
        rows[r] = null;
        return 1;
    }

    int copy(int r, int i, int to, int j, int n) {
        if (!in(r, 0, 5) || !in(to, 0, 5)) {
            return BAD;
        }
        if (n < 0) {
            return refuse(5);
        }
        if (rows[r] == null || rows[to] == null) {
            return refuse(1);
        }
        if (i < 0 || j < 0 || (long) i + n > rows[r].length || (long) j + n > rows[to].length) {
            return refuse(2);
        }
        int[] taken = Arrays.copyOfRange(rows[r], i, i + n);
        for (int k = 0; k < n; k++) {
            rows[to][j + k] = taken[k];
        }
        return 1;
    }

    int mean(int r) {
        if (!in(r, 0, 5)) {
            return BAD;
        }
        if (rows[r] == null) {
            return refuse(1);
        }
        if (rows[r].length == 0) {
            return refuse(4);
        }
        BigInteger sum = BigInteger.ZERO;
        for (int v : rows[r]) {
            sum = sum.add(BigInteger.valueOf(v));
        }
        asked = sum.divide(BigInteger.valueOf(rows[r].length)).intValueExact();
        return 1;
    }

    int text(int t, int n) {
        if (!in(t, 0, 3) || n > 60) {
            return BAD;
        }
        if (n < 0) {
            return refuse(5);
        }
        texts[t] = " ".repeat(n).getBytes();
        return n;
    }

    int put(int t, int i, int v) {
        if (!in(t, 0, 3)) {
            return BAD;
        }
        if (texts[t] == null) {
            return refuse(1);
        }
        if (!in(i, 0, texts[t].length - 1)) {
            return refuse(2);
        }
        int was = texts[t][i];
        texts[t][i] = (byte) v;
        return 1000 + was;
    }

    private static final String HOURS = "(0[1-9]|[123][0-9]|40)";
    private static final String WHOLE = " *w[0-9][0-9][1-9][0-9]" + HOURS + " *([grsflc][1-9] *){1,6}";

    /** The first place at which no more signs make it whole: tried by the matcher's own end. */
    int fault(int t) {
        if (!in(t, 0, 3)) {
            return BAD;
        }
        return texts[t] == null ? refuse(1) : faultOf(string(t));
    }

    private String string(int t) {
        StringBuilder s = new StringBuilder();
        for (byte b : texts[t]) {
            s.append((char) (b & 255));
        }
        return s.toString();
    }

    private static int faultOf(String s) {
        if (s.matches(WHOLE)) {
            return NONE;
        }
        for (int n = 1; n <= s.length(); n++) {
            java.util.regex.Matcher m = java.util.regex.Pattern.compile(WHOLE).matcher(s.substring(0, n));
            if (!m.matches() && !m.hitEnd()) {
                return n - 1;
            }
        }
        return s.length();
    }

    int ship(int t) {
        if (!in(t, 0, 3)) {
            return BAD;
        }
        if (texts[t] == null) {
            return refuse(1);
        }
        String s = string(t).replace(" ", "");
        if (faultOf(string(t)) != NONE) {
            return STATE;
        }
        List<Crew> crews = new ArrayList<>();
        for (int i = 7; i < s.length(); i += 2) {
            int force = s.charAt(i + 1) - '0';
            crews.add(new Crew(LETTERS.indexOf(s.charAt(i)), force, force));
        }
        log = new ArrayList<>();
        log.add(new Hull(Integer.parseInt(s.substring(1, 3)), s.charAt(3) - '0', s.charAt(4) - '0', 0, false, 0,
            Integer.parseInt(s.substring(5, 7)), crews));
        for (int k = 0; k < 3; k++) {
            kept.set(k, null);
        }
        return crews.size();
    }

    private int gangOf(int i, int what) {
        Crew c = hull().crews().get(i);
        int[] all = {c.kind, c.force, c.strength, c.pumps(hull().choke), c.worked().strength};
        return all[what];
    }

    int gang(int i, int what) {
        if (noCrew(i) || !in(what, 0, 4)) {
            return BAD;
        }
        asked = gangOf(i, what);
        return 1;
    }

    private static boolean is(Crew c, int kind) {
        return c.kind == kind || kind == 1 && c.kind == 4 || kind == 2 && c.kind == 5;
    }

    int mark(int i, int kind) {
        if (noCrew(i) || !in(kind, 1, 5)) {
            return BAD;
        }
        Crew c = hull().crews().get(i);
        if (!is(c, kind)) {
            return refuse(3);
        }
        int n = 0;
        if (kind == 1) {
            while (c.strength >= c.cost()) {
                c = c.worked();
                n++;
            }
            return n;
        }
        if (kind == 2) {
            return c.worked().worked().worked().strength;
        }
        if (kind == 3) {
            return c.as(0).pumps(hull().choke) - c.pumps(hull().choke);
        }
        if (kind == 4) {
            return new Crew(4, c.force, 0).pumps(hull().choke);
        }
        for (Crew d : hull().crews()) {
            n += is(d, 2) && d.strength >= 1 ? 1 : 0;
        }
        return n;
    }

    int force(int i, int v) {
        if (noCrew(i) || !in(v, 1, 9)) {
            return BAD;
        }
        int was = hull().crews().get(i).force;
        log.set(log.size() - 1, hull().with(i, hull().crews().get(i).forced(v)));
        return was;
    }

    private int tellOf(int what) {
        Hull h = hull();
        int[] all = {h.water, h.leaks(), h.cargo, h.thrown, h.sail ? 1 : 0, h.choke, log.size() - 1, h.left,
            h.sunk() ? 1 : 0};
        return all[what];
    }

    int tell(int what) {
        if (!in(what, 0, 8)) {
            return BAD;
        }
        if (none()) {
            return STATE;
        }
        asked = tellOf(what);
        return 1;
    }

    int can() {
        if (none()) {
            return STATE;
        }
        int set = 0;
        for (int a = 9; a >= 0; a--) {
            set = 2 * set + (hull().can(a) ? 1 : 0);
        }
        return set;
    }

    int act(int a) {
        if (!in(a, 0, 9)) {
            return BAD;
        }
        if (none() || !hull().can(a)) {
            return STATE;
        }
        log.add(hull().then(a));
        return hull().water;
    }

    int undo(int n) {
        int passed = Math.max(0, log.size() - 1);
        if (!in(n, 0, passed)) {
            return BAD;
        }
        while (log.size() - 1 > n) {
            Hull gone = log.remove(log.size() - 1);
            for (int i = 0; i < gone.crews.size(); i++) {
                log.set(log.size() - 1, hull().with(i, hull().crews().get(i).forced(gone.crews.get(i).force)));
            }
        }
        return passed - n;
    }

    int keep(int k) {
        if (!in(k, 0, 2)) {
            return BAD;
        }
        if (none()) {
            return STATE;
        }
        kept.set(k, new ArrayList<>(log));
        return log.size() - 1;
    }

    int on(int k) {
        if (!in(k, 0, 2)) {
            return BAD;
        }
        if (kept.get(k) == null) {
            return refuse(1);
        }
        log = new ArrayList<>(kept.get(k));
        return log.size() - 1;
    }

    private static boolean noActs(int[] row) {
        return Arrays.stream(row).anyMatch(a -> !in(a, 0, 9));
    }

    int run(int r) {
        if (!in(r, 0, 5)) {
            return BAD;
        }
        if (none()) {
            return STATE;
        }
        if (rows[r] == null) {
            return refuse(1);
        }
        if (noActs(rows[r])) {
            return refuse(3);
        }
        Hull h = hull();
        int i = 0;
        while (i < rows[r].length && h.can(rows[r][i])) {
            h = h.then(rows[r][i]);
            if (h.sunk()) {
                break;
            }
            i++;
        }
        asked = h.water;
        return i;
    }

    private void plans(Hull h, int n, String before, List<String> all) {
        if (h.sunk()) {
            return;
        }
        if (n == 0) {
            all.add(before + ":" + h.water);
            return;
        }
        for (int a = 0; a <= 9; a++) {
            if (h.can(a)) {
                plans(h.then(a), n - 1, before + a, all);
            }
        }
    }

    private List<String> plans(int n) {
        List<String> all = new ArrayList<>();
        plans(hull(), n, "", all);
        return all;
    }

    private int takeBest(List<String> all, int n, int r) {
        int least = NONE;
        for (String s : all) {
            int water = Integer.parseInt(s.substring(n + 1));
            if (least == NONE || water < least) {
                least = water;
                rows[r] = s.substring(0, n).chars().map(c -> c - '0').toArray();
            }
        }
        return least;
    }

    int best(int n, int r) {
        if (!in(n, 0, 4) || !in(r, 0, 5)) {
            return BAD;
        }
        return none() ? STATE : takeBest(plans(n), n, r);
    }

    int afloat(int n) {
        if (!in(n, 0, 4)) {
            return BAD;
        }
        if (none()) {
            return STATE;
        }
        upper = plans(n).size();
        lower = 1;
        return 1;
    }

    int firsts(int n) {
        if (!in(n, 1, 4)) {
            return BAD;
        }
        if (none()) {
            return STATE;
        }
        int set = 0;
        for (String s : plans(n)) {
            set |= 1 << s.charAt(0) - '0';
        }
        return set;
    }

    int rota(int r) {
        if (!in(r, 0, 5)) {
            return BAD;
        }
        if (none()) {
            return STATE;
        }
        if (rows[r] == null) {
            return refuse(1);
        }
        if (!in(rows[r].length, 1, 12)) {
            return refuse(5);
        }
        if (noActs(rows[r])) {
            return refuse(3);
        }
        Hull h = hull().again(99, rows[r]);
        asked = hull().left - h.left;
        return h.sunk() ? NONE : h.water;
    }

    int watch(int n, int r) {
        if (!in(n, 1, 3) || !in(r, 0, 5)) {
            return BAD;
        }
        if (none()) {
            return STATE;
        }
        List<String> all = new ArrayList<>();
        for (int i = 0; i < Math.pow(10, n); i++) {
            String s = ("00" + i).substring(("00" + i).length() - n);
            Hull h = hull().again(99, s.chars().map(c -> c - '0').toArray());
            if (!h.sunk()) {
                all.add(s + ":" + h.water);
            }
        }
        return takeBest(all, n, r);
    }

    int lasts(int a) {
        if (!in(a, 0, 9)) {
            return BAD;
        }
        if (none()) {
            return STATE;
        }
        int n = 0;
        while (n < hull().left && !hull().again(n + 1, a).sunk()) {
            n++;
        }
        return n;
    }

    int inches(int a, int b, int n) {
        if (!in(a, 0, 9) || !in(b, 0, 9) || !in(n, 0, 20)) {
            return BAD;
        }
        if (none()) {
            return STATE;
        }
        asked = hull().again(n, b).water - hull().again(n, a).water;
        return 1;
    }

    int lighten(int a) {
        if (!in(a, 0, 9)) {
            return BAD;
        }
        if (none()) {
            return STATE;
        }
        int k = 0;
        while (k <= hull().cargo && hull().lighter(k).again(99, a).sunk()) {
            k++;
        }
        return k > hull().cargo ? NONE : k;
    }

    int rest(int i) {
        if (noCrew(i)) {
            return BAD;
        }
        int n = 0;
        for (Crew c = hull().crews().get(i); c.strength < c.force; c = c.rested()) {
            n++;
        }
        return n;
    }

    int gains(int r) {
        if (!in(r, 0, 5)) {
            return BAD;
        }
        if (rows[r] == null) {
            return refuse(1);
        }
        int n = rows[r].length;
        if (n < 2) {
            return refuse(5);
        }
        long first = rows[r][0];
        long last = rows[r][n - 1];
        return last - 1 > first + 1 ? 1 : last + 1 < first - 1 ? 2 : 0;
    }

    private int pairs(int r) {
        if (rows[r] == null) {
            return 1;
        }
        if (rows[r].length % 2 == 1) {
            return 5;
        }
        Hull h = hull();
        for (int i = 0; i < rows[r].length; i += 2) {
            if (h.left == 0 || !h.fits(rows[r][i])) {
                return 3;
            }
            h = h.then(rows[r][i]);
        }
        return 0;
    }

    private boolean soAs(int i, int kind, int r) {
        return hull().with(i, hull().crews().get(i).as(kind)).so(rows[r]);
    }

    int feigns(int r) {
        if (!in(r, 0, 5)) {
            return BAD;
        }
        if (none()) {
            return STATE;
        }
        if (pairs(r) != 0) {
            return refuse(pairs(r));
        }
        int set = 0;
        for (int i = 0; i < hull().crews().size(); i++) {
            set += soAs(i, 3, r) ? 1 << i : 0;
        }
        asked = hull().so(rows[r]) ? 1 : 0;
        return set;
    }

    int kinds(int i, int r) {
        if (noCrew(i) || !in(r, 0, 5)) {
            return BAD;
        }
        if (pairs(r) != 0) {
            return refuse(pairs(r));
        }
        int set = 0;
        for (int kind = 0; kind <= 5; kind++) {
            set += soAs(i, kind, r) ? 1 << kind : 0;
        }
        return set;
    }

    int leaks(int r) {
        if (!in(r, 0, 5)) {
            return BAD;
        }
        if (none()) {
            return STATE;
        }
        if (pairs(r) != 0) {
            return refuse(pairs(r));
        }
        int set = 0;
        for (int leak = 1; leak <= 9; leak++) {
            set += hull().leaking(leak).so(rows[r]) ? 1 << leak : 0;
        }
        return set;
    }

    /** SHIPS by their own words, each with its part of 12 to the n. */
    private TreeMap<String, Object[]> shared(int a, int n, int p) {
        TreeMap<String, Object[]> now = new TreeMap<>();
        now.put(hull().toString(), new Object[] {hull(), 1L});
        for (int i = 0; i < n; i++) {
            TreeMap<String, Object[]> next = new TreeMap<>();
            for (Object[] one : now.values()) {
                Hull h = (Hull) one[0];
                long weight = (Long) one[1];
                if (h.sunk() || h.left == 0) {
                    share(next, h, 12 * weight);
                } else if (a < h.crews.size()) {
                    share(next, h.choked(Math.max(5, h.choke)).then(a), p * weight);
                    share(next, h.then(a), (12 - p) * weight);
                } else {
                    share(next, h.anyway(a), 12 * weight);
                }
            }
            now = next;
        }
        return now;
    }

    private static void share(TreeMap<String, Object[]> all, Hull h, long weight) {
        Object[] had = all.get(h.toString());
        all.put(h.toString(), new Object[] {h, weight + (had == null ? 0 : (Long) had[1])});
    }

    private int chance(int a, int n, int p, boolean mid) {
        if (!in(a, 0, 9) || !in(n, 0, 8) || !in(p, 0, 12)) {
            return BAD;
        }
        if (none()) {
            return STATE;
        }
        BigInteger sum = BigInteger.ZERO;
        for (Object[] one : shared(a, n, p).values()) {
            Hull h = (Hull) one[0];
            int value = mid ? h.sunk() ? 100 : h.water : h.sunk() ? 0 : 1;
            sum = sum.add(BigInteger.valueOf((Long) one[1]).multiply(BigInteger.valueOf(value)));
        }
        BigInteger whole = BigInteger.valueOf(12).pow(n);
        upper = sum.divide(sum.gcd(whole)).longValueExact();
        lower = whole.divide(sum.gcd(whole)).longValueExact();
        return 1;
    }

    int odds(int a, int n, int p) {
        return chance(a, n, p, false);
    }

    int mid(int a, int n, int p) {
        return chance(a, n, p, true);
    }

    int lots(int n, int seed) {
        if (!in(n, 1, 20) || !in(seed, 1, 2147483646)) {
            return BAD;
        }
        if (none()) {
            return STATE;
        }
        BigInteger number = BigInteger.valueOf(seed);
        int passed = 0;
        while (passed < n && can() != 0) {
            number = number.multiply(BigInteger.valueOf(48271)).mod(BigInteger.valueOf(2147483647));
            List<Integer> acts = new ArrayList<>();
            for (int a = 0; a <= 9; a++) {
                if (hull().can(a)) {
                    acts.add(a);
                }
            }
            act(acts.get(number.mod(BigInteger.valueOf(acts.size())).intValue()));
            passed++;
        }
        return passed;
    }

    int asked() {
        return asked;
    }

    long upper() {
        return upper;
    }

    long lower() {
        return lower;
    }

    int count(int what) {
        if (!in(what, 0, 8)) {
            return BAD;
        }
        int n = 0;
        if (what == 6) {
            return (int) Arrays.stream(rows).filter(r -> r != null).count();
        }
        if (what == 7) {
            return (int) Arrays.stream(texts).filter(t -> t != null).count();
        }
        if (what == 8) {
            return (int) kept.stream().filter(k -> k != null).count();
        }
        if (none()) {
            return 0;
        }
        if (what == 1) {
            return hull().water;
        }
        if (what == 2) {
            return log.size() - 1;
        }
        for (Crew c : hull().crews()) {
            n += what == 0 ? 1 : what == 3 ? c.strength : is(c, what - 3) ? 1 : 0;
        }
        return n;
    }

    int finding() {
        return finding;
    }

    int findings(int f) {
        return in(f, 1, 5) ? often[f] : BAD;
    }

    long digest() {
        List<Integer> all = new ArrayList<>();
        for (int what = 0; what <= 8; what++) {
            all.add(count(what));
        }
        for (int what = 0; what <= 8 && !none(); what++) {
            all.add(tellOf(what));
        }
        for (int i = 0; !noCrew(i); i++) {
            for (int what = 0; what <= 4; what++) {
                all.add(gangOf(i, what));
            }
        }
        for (List<Hull> k : kept) {
            all.add(k == null ? -1 : k.size() - 1);
        }
        for (int[] r : rows) {
            all.add(r == null ? -1 : r.length);
            for (int i = 0; r != null && i < r.length; i++) {
                all.add(r[i]);
            }
        }
        for (byte[] t : texts) {
            all.add(t == null ? -1 : t.length);
            for (int i = 0; t != null && i < t.length; i++) {
                all.add((int) t[i]);
            }
        }
        long h = 17;
        for (int v : all) {
            h = 31 * h + v;
        }
        return h;
    }
}
