/** Promises 38 to 44, with each bound at its number, one below it, one above it. */
public final class ToldEdgesTest {
    private static final int FINDING = PumpSpells.FINDING, NONE = PumpSpells.NONE;
    private static final int MIN = Integer.MIN_VALUE, MAX = Integer.MAX_VALUE;

    public static void main(String[] args) {
        askedBefore();
        askedByEach();
        askedNotByRefused();
        askedNotByOthers();
        upperBefore();
        upperToldLast();
        lowerBefore();
        lowerOfThatUpper();
        countNine();
        countRacingAndSung();
        countRowsAndTexts();
        countKept();
        countOutside();
        findingBefore();
        findingIsTheLatest();
        findingsHowOften();
        findingsOutside();
        digestOfNone();
        digestOfGangs();
        digestOfKept();
        digestOfRows();
        digestOfTexts();
        digestOfAll();
        digestChangesNothing();
        Checks.end("ToldEdgesTest");
    }

    private static PumpSpells behind(String text, int... acts) {
        PumpSpells x = Checks.launch(text);
        for (int a : acts) {
            x.act(a);
        }
        return x;
    }

    // ---- 38 asked

    private static void askedBefore() {
        Doc.promise(38, "0 before.");
        Checks.due("asked()", new PumpSpells().asked(), 0);
        PumpSpells x = Checks.launch("w305240 g6 r9");
        x.at(0, 0);
        x.tell(9);
        x.act(9);
        x.best(1, 0);
        x.odds(0, 1, 1);
        Checks.due("asked() ahead of any", x.asked(), 0);
    }

    private static void askedByEach() {
        Doc.promise(38, "What the latest lay(), at(), mean(), gang(), tell(), run(), rota() (NONE, too), inches(), feigns() "
            + "that was not refused told");
        PumpSpells x = Checks.launch("w201302 g6 r9");
        Checks.fill(x, 0, 5, 6);
        Checks.dueTold("lay", x, x.lay(0, 0, 9), 5);
        Checks.dueTold("at", x, x.at(0, 1), 6);
        x.lay(0, 1, 9);
        Checks.dueTold("mean", x, x.mean(0), 9);
        Checks.dueTold("gang", x, x.gang(1, 2), 9);
        Checks.dueTold("tell", x, x.tell(2), 3);
        Checks.due("run", x.run(0), 2);
        Checks.due("run: asked()", x.asked(), 22);
        Checks.due("rota", x.rota(0), 22);
        Checks.due("rota: asked()", x.asked(), 2);
        Checks.dueTold("inches", x, x.inches(9, 1, 2), -18);
        Checks.fill(x, 1, 9, 21);
        Checks.due("feigns", x.feigns(1), 3);
        Checks.due("feigns: asked()", x.asked(), 1);
        PumpSpells y = Checks.launch("w921009 g6");
        Checks.fill(y, 0, 9);
        Checks.due("rota, NONE", y.rota(0), NONE);
        Checks.due("rota, NONE: asked()", y.asked(), 2);
        Checks.due("asked() again", y.asked(), 2);
    }

    private static void askedNotByRefused() {
        Doc.promise(38, "that was not refused");
        PumpSpells x = Checks.launch("w201302 g6 r9");
        Checks.fill(x, 0, 10);
        x.tell(0);
        int[] refused = {
            x.lay(0, 1, 3), x.at(0, -1), x.at(6, 0), x.mean(1), x.gang(2, 0), x.gang(0, 5), x.tell(9), x.run(0), x.run(1),
            x.rota(0), x.rota(1), x.inches(0, 10, 1), x.inches(0, 0, 21), x.feigns(0), x.feigns(1),
        };
        for (int answer : refused) {
            Checks.due("refused", answer < 0 ? 1 : 0, 1);
        }
        Checks.due("asked()", x.asked(), 20);
    }

    private static void askedNotByOthers() {
        Doc.promise(38, "What the latest lay(), at(), mean(), gang(), tell(), run(), rota()");
        PumpSpells x = Checks.launch("w201340 g6 r9");
        x.row(0, 2);
        x.row(1, 2);
        Checks.fill(x, 2, 9, 21);
        x.tell(2);
        int[] told = {
            x.row(3, 1), x.copy(0, 0, 1, 0, 1), x.tear(3), x.text(0, 3), x.put(0, 0, 5), x.fault(3), x.mark(1, 1),
            x.force(0, 6), x.can(), x.act(9), x.undo(0), x.keep(0), x.on(0), x.best(1, 0), x.afloat(2), x.firsts(2),
            x.watch(1, 0), x.lasts(9), x.lighten(9), x.rest(0), x.gains(2), x.kinds(0, 2), x.leaks(2), x.odds(0, 1, 5),
            x.mid(0, 1, 5), x.lots(1, 5), x.count(1), x.finding(), x.findings(1), x.ship(3),
        };
        for (int answer : told) {
            Checks.due("answered", answer >= 0 || answer == NONE ? 1 : 0, 1);
        }
        x.upper();
        x.lower();
        x.digest();
        Checks.due("asked()", x.asked(), 3);
    }

    // ---- 39 upper, 40 lower

    private static void upperBefore() {
        Doc.promise(39, "0 before.");
        Checks.due("upper()", new PumpSpells().upper(), 0);
        PumpSpells x = Checks.launch("w201340 g6");
        x.tell(0);
        x.odds(0, 9, 1);
        x.afloat(5);
        x.best(2, 0);
        Checks.due("upper() ahead of any", x.upper(), 0);
    }

    private static void upperToldLast() {
        Doc.promise(39, "The upper number that was told last");
        PumpSpells x = Checks.launch("w963040 g9");
        x.odds(0, 1, 3);
        Checks.due("by odds()", x.upper(), 3);
        x.mid(0, 1, 3);
        Checks.due("by mid()", x.upper(), 97);
        x.afloat(0);
        Checks.due("by afloat()", x.upper(), 1);
        x.odds(0, 1, 1);
        Checks.due("by odds()", x.upper(), 11);
        x.odds(0, 9, 1);
        x.mid(-1, 0, 0);
        x.afloat(-1);
        Checks.due("not by refused ones", x.upper(), 11);
        x.act(9);
        x.act(9);
        x.afloat(1);
        Checks.due("none", x.upper(), 0);
    }

    private static void lowerBefore() {
        Doc.promise(40, "1 before.");
        Checks.due("lower()", new PumpSpells().lower(), 1);
        PumpSpells x = Checks.launch("w201340 g6");
        x.odds(0, 0, 13);
        Checks.due("lower() ahead of any", x.lower(), 1);
    }

    private static void lowerOfThatUpper() {
        Doc.promise(40, "Its lower number");
        PumpSpells x = Checks.launch("w963040 g9");
        x.odds(0, 1, 3);
        Checks.due("by odds()", x.lower(), 4);
        x.mid(0, 1, 4);
        Checks.due("by mid()", x.lower(), 3);
        x.odds(0, 1, 13);
        Checks.due("not by a refused one", x.lower(), 3);
        x.afloat(1);
        Checks.due("by afloat()", x.lower(), 1);
        x.odds(0, 1, 1);
        Checks.due("by odds()", x.lower(), 12);
        x.odds(0, 1, 12);
        Checks.due("of 0", x.lower(), 1);
    }

    // ---- 41 count

    private static void dueCounts(String when, PumpSpells x, int... counts) {
        for (int what = 0; what < counts.length; what++) {
            Checks.due(when + ": count(" + what + ")", x.count(what), counts[what]);
        }
    }

    private static void countNine() {
        Doc.promise(41, "0 GANGS, 1 WATER, 2 HOURS that passed, 3 all STRENGTH together, 4 RACING ones (LAST ones, too), "
            + "5 SUNG ones (CHOIRS, too), 6 ROWS, 7 TEXTS that are there, 8 kept SHIPS.");
        dueCounts("a new object", new PumpSpells(), 0, 0, 0, 0, 0, 0, 0, 0, 0);
        PumpSpells x = Checks.launch(Checks.ALL_KINDS);
        dueCounts("at first", x, 6, 30, 0, 34, 2, 2, 0, 1, 0);
        x.act(1);
        dueCounts("an HOUR of the RACING one", x, 6, 27, 1, 30, 2, 2, 0, 1, 0);
        x.act(9);
        dueCounts("an HOUR of rest", x, 6, 33, 2, 31, 2, 2, 0, 1, 0);
        x.force(0, 1);
        dueCounts("less FORCE", x, 6, 33, 2, 26, 2, 2, 0, 1, 0);
        PumpSpells y = behind("w999001 g1", 9);
        dueCounts("SUNK", y, 1, 111, 1, 1, 0, 0, 0, 1, 0);
        Checks.due("all STRENGTH there can be", Checks.launch("w001001 g9g9g9g9g9g9").count(3), 54);
        Checks.due("no STRENGTH", behind("w001001 s1", 0).count(3), 0);
    }

    private static void countRacingAndSung() {
        Doc.promise(41, "4 RACING ones (LAST ones, too), 5 SUNG ones (CHOIRS, too)");
        int[][] due = {{0, 0}, {1, 0}, {0, 1}, {0, 0}, {1, 0}, {0, 1}};
        for (int kind = 0; kind < 6; kind++) {
            for (int n = 1; n <= 6; n++) {
                PumpSpells x = Checks.launch("w001001" + ("" + "grsflc".charAt(kind) + 5).repeat(n));
                Checks.due("RACING ones", x.count(4), n * due[kind][0]);
                Checks.due("SUNG ones", x.count(5), n * due[kind][1]);
            }
        }
    }

    private static void countRowsAndTexts() {
        Doc.promise(41, "6 ROWS, 7 TEXTS that are there");
        PumpSpells x = new PumpSpells();
        for (int r = 0; r < 6; r++) {
            x.row(r, r == 0 ? 0 : 40);
            Checks.due("ROWS", x.count(6), r + 1);
        }
        x.row(3, 1);
        Checks.due("ROWS anew", x.count(6), 6);
        for (int r = 0; r < 6; r++) {
            x.tear(r);
            Checks.due("ROWS that are left", x.count(6), 5 - r);
        }
        for (int t = 0; t < 4; t++) {
            x.text(t, t == 0 ? 0 : 60);
            Checks.due("TEXTS", x.count(7), t + 1);
        }
        x.text(0, 5);
        Checks.due("TEXTS anew", x.count(7), 4);
    }

    private static void countKept() {
        Doc.promise(41, "8 kept SHIPS");
        PumpSpells x = Checks.launch("w001040 g6");
        for (int k = 2; k >= 0; k--) {
            x.keep(k);
            Checks.due("kept", x.count(8), 3 - k);
        }
        x.keep(1);
        Checks.due("kept again", x.count(8), 3);
        x.on(1);
        Checks.due("gone on from", x.count(8), 3);
        x.ship(3);
        Checks.due("behind ship()", x.count(8), 0);
    }

    private static void countOutside() {
        Doc.promise(41, "BAD.");
        PumpSpells x = Checks.launch("w001040 g6");
        Checks.dueRange("count", x, x::count, 0, 8);
        PumpSpells y = new PumpSpells();
        Checks.dueRange("count of a new object", y, y::count, 0, 8);
    }

    // ---- 42 finding, 43 findings

    private static int find(PumpSpells x, int f) {
        switch (f) {
            case 1: return x.at(1, 0);
            case 2: return x.at(0, 0);
            case 3: return x.mark(0, 1);
            case 4: return x.mean(0);
            default: return x.row(0, -1);
        }
    }

    private static PumpSpells finder() {
        PumpSpells x = Checks.launch("w001040 g6");
        x.row(0, 0);
        return x;
    }

    private static void findingBefore() {
        Doc.promise(42, "(0 before any).");
        Checks.due("finding()", new PumpSpells().finding(), 0);
        PumpSpells x = finder();
        x.row(6, 1);
        x.act(0);
        x.act(3);
        x.tell(9);
        Checks.due("finding() behind other refusals", x.finding(), 0);
    }

    private static void findingIsTheLatest() {
        Doc.promise(42, "The latest FINDING");
        for (int f = 1; f <= 5; f++) {
            for (int g = 1; g <= 5; g++) {
                PumpSpells x = finder();
                Checks.due("FINDING " + f, find(x, f), FINDING);
                Checks.due("finding()", x.finding(), f);
                Checks.due("FINDING " + g, find(x, g), FINDING);
                Checks.due("finding()", x.finding(), g);
                x.act(9);
                x.row(6, 1);
                x.act(3);
                Checks.due("finding() stays", x.finding(), g);
            }
        }
    }

    private static void findingsHowOften() {
        Doc.promise(43, "How often a FINDING (1 .. 5) was answered.");
        PumpSpells x = finder();
        int[] often = new int[6];
        for (int n = 0; n < 3; n++) {
            for (int f = 1; f <= 5; f++) {
                for (int k = 0; k <= n && k < f; k++) {
                    find(x, f);
                    often[f]++;
                }
                for (int g = 1; g <= 5; g++) {
                    Checks.due("findings(" + g + ")", x.findings(g), often[g]);
                }
            }
        }
        x.row(6, -1);
        x.act(3);
        x.ship(3);
        x.act(9);
        for (int g = 1; g <= 5; g++) {
            Checks.due("findings(" + g + ") behind others", x.findings(g), often[g]);
        }
        // more than a byte, and as many as calls allow
        PumpSpells y = new PumpSpells();
        for (int n = 0; n < 500; n++) {
            y.tear(0);
        }
        Checks.due("five hundred", y.findings(1), 500);
    }

    private static void findingsOutside() {
        Doc.promise(43, "BAD.");
        PumpSpells x = new PumpSpells();
        Checks.dueRange("findings", x, x::findings, 1, 5);
    }

    // ---- 44 digest

    private static long digestOf(long from, long... values) {
        long h = from;
        for (long v : values) {
            h = 31 * h + v;
        }
        return h;
    }

    private static final long[] NO_ROWS_NOR_TEXTS = {-1, -1, -1, -1, -1, -1, -1, -1, -1, -1};

    private static void digestOfNone() {
        Doc.promise(44, "h = 17; then h = 31 h + v for each v: count() 0 to 8;");
        long h = digestOf(17, 0, 0, 0, 0, 0, 0, 0, 0, 0, -1, -1, -1);
        Checks.due("digest()", new PumpSpells().digest(), digestOf(h, NO_ROWS_NOR_TEXTS));
    }

    /** The SHIP by TEXT 0, so that what is behind it is short. */
    private static PumpSpells byText0(String text) {
        PumpSpells x = new PumpSpells();
        Checks.write(x, 0, text);
        x.ship(0);
        return x;
    }

    private static void digestOfGangs() {
        Doc.promise(44, "with GANGS tell() 0 to 8, of each gang() 0 to 4;");
        PumpSpells x = byText0("w305314g6r9");
        x.text(0, 0);
        x.act(1);
        long h = digestOf(17, 2, 27, 1, 11, 1, 0, 0, 1, 0);
        h = digestOf(h, 27, 6, 3, 0, 0, 2, 1, 13, 0);
        h = digestOf(h, 0, 6, 6, 6, 4, 1, 9, 5, 9, 1);
        h = digestOf(h, -1, -1, -1, -1, -1, -1, -1, -1, -1, 0, -1, -1, -1);
        Checks.due("digest()", x.digest(), h);
        PumpSpells y = byText0("w999001s1");
        y.text(0, 0);
        y.act(9);
        h = digestOf(17, 1, 111, 1, 1, 0, 1, 0, 1, 0);
        h = digestOf(h, 111, 13, 0, 0, 0, 0, 1, 0, 1);
        h = digestOf(h, 2, 1, 1, 6, 0);
        h = digestOf(h, -1, -1, -1, -1, -1, -1, -1, -1, -1, 0, -1, -1, -1);
        Checks.due("digest() when SUNK", y.digest(), h);
    }

    private static void digestOfKept() {
        Doc.promise(44, "of each kept SHIP how many HOURS passed (-1: missing);");
        int[][] kept = {{-1, -1, -1}, {0, -1, -1}, {-1, 0, -1}, {-1, -1, 0}, {1, 0, -1}, {0, 1, 2}, {2, 2, 2}};
        for (int[] hours : kept) {
            PumpSpells x = byText0("w001940s9");
            x.text(0, 0);
            int many = 0;
            for (int h = 0; h <= 2; h++) {
                for (int k = 0; k <= 2; k++) {
                    if (hours[k] == h) {
                        x.keep(k);
                        many++;
                    }
                }
                x.act(9);
            }
            long h = digestOf(17, 1, 3, 3, 9, 0, 1, 0, 1, many);
            h = digestOf(h, 3, 1, 9, 0, 0, 0, 3, 37, 0);
            h = digestOf(h, 2, 9, 9, 6, 8);
            h = digestOf(h, hours[0], hours[1], hours[2]);
            h = digestOf(h, -1, -1, -1, -1, -1, -1, 0, -1, -1, -1);
            Checks.due("digest()", x.digest(), h);
        }
    }

    private static void digestOfRows() {
        Doc.promise(44, "of each ROW its size (-1: missing) and places");
        PumpSpells x = new PumpSpells();
        x.row(0, 0);
        Checks.fill(x, 1, 7);
        Checks.fill(x, 5, MIN, -1, MAX);
        x.row(2, 3);
        x.tear(2);
        long h = digestOf(17, 0, 0, 0, 0, 0, 0, 3, 0, 0, -1, -1, -1);
        h = digestOf(h, 0, 1, 7, -1, -1, -1, 3, MIN, -1, MAX);
        h = digestOf(h, -1, -1, -1, -1);
        Checks.due("digest()", x.digest(), h);
    }

    private static void digestOfTexts() {
        Doc.promise(44, "of each TEXT likewise.");
        PumpSpells x = new PumpSpells();
        x.text(0, 0);
        x.text(3, 3);
        x.put(3, 0, 127);
        x.put(3, 1, 128);
        long h = digestOf(17, 0, 0, 0, 0, 0, 0, 0, 2, 0, -1, -1, -1);
        h = digestOf(h, -1, -1, -1, -1, -1, -1, 0, -1, -1, 3, 127, -128, 32);
        Checks.due("digest()", x.digest(), h);
    }

    private static void digestOfAll() {
        Doc.promise(44, "h = 17; then h = 31 h + v for each v");
        PumpSpells x = new PumpSpells();
        long h = digestOf(17, 0, 0, 0, 0, 0, 0, 6, 4, 0, -1, -1, -1);
        for (int r = 0; r < 6; r++) {
            x.row(r, 40);
            x.lay(r, 0, MAX);
            x.lay(r, 39, r);
            h = digestOf(h, 40, MAX);
            h = digestOf(h, new long[38]);
            h = digestOf(h, r);
        }
        for (int t = 0; t < 4; t++) {
            x.text(t, 60);
            x.put(t, 59, t);
            h = digestOf(h, 60);
            for (int i = 0; i < 59; i++) {
                h = digestOf(h, 32);
            }
            h = digestOf(h, t);
        }
        Checks.due("digest() of all there can be", x.digest(), h);
    }

    private static void digestChangesNothing() {
        Doc.promise(44, "h = 17; then h = 31 h + v for each v");
        PumpSpells x = Checks.launch("w305314 g6");
        x.tell(0);
        x.odds(0, 1, 5);
        int asked = x.asked();
        long upper = x.upper();
        long digest = x.digest();
        Checks.due("digest() again", x.digest(), digest);
        Checks.due("asked()", x.asked(), asked);
        Checks.due("upper()", x.upper(), upper);
        Checks.due("finding()", x.finding(), 0);
    }
}
