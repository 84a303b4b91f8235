/** What 'Terms' says of CHANCE and LOTS, and promises 35 to 37. */
public final class ChanceEdgesTest {
    private static final int BAD = PumpSpells.BAD, STATE = PumpSpells.STATE;
    private static final int MIN = Integer.MIN_VALUE, MAX = Integer.MAX_VALUE;

    public static void main(String[] args) {
        chokeByChance();
        chokeIfItWasLess();
        noChanceWithoutPumping();
        lowestTerms();
        oddsAtTheBrim();
        oddsByTwelfths();
        oddsOfHours();
        oddsTillLand();
        oddsCantBe();
        oddsOutside();
        midThen();
        midSunkIsAHundred();
        midOfHours();
        midOutside();
        lotsOfASeed();
        lotsWrapAround();
        lotsAmongThoseThatCanBe();
        lotsTruly();
        lotsOfHours();
        lotsTillSunkOrLand();
        lotsOutside();
        Checks.end("ChanceEdgesTest");
    }

    private static PumpSpells behind(String text, int... acts) {
        PumpSpells x = Checks.launch(text);
        for (int a : acts) {
            x.act(a);
        }
        return x;
    }

    private static void dueOdds(PumpSpells x, int a, int n, int p, long upper, long lower) {
        long digest = x.digest();
        Checks.dueChance("odds(" + a + ", " + n + ", " + p + ")", x, x.odds(a, n, p), upper, lower);
        Checks.due("odds is aside", x.digest(), digest);
    }

    private static void dueMid(PumpSpells x, int a, int n, int p, long upper, long lower) {
        long digest = x.digest();
        Checks.dueChance("mid(" + a + ", " + n + ", " + p + ")", x, x.mid(a, n, p), upper, lower);
        Checks.due("mid is aside", x.digest(), digest);
    }

    // ---- Terms

    private static void chokeByChance() {
        Doc.terms("By CHANCE: in each HOUR of pumping, by p of 12, the CHOKE is 5 ahead of it (if it was less).");
        // 47, or choked 51; then 43 or choked 47, or 52 as the CHOKE is 6 by then
        PumpSpells x = Checks.launch("w501040 g9");
        dueMid(x, 0, 1, 0, 47, 1);
        dueMid(x, 0, 1, 12, 51, 1);
        dueMid(x, 0, 1, 6, 49, 1);
        dueMid(x, 0, 1, 1, 142, 3);
        dueMid(x, 0, 1, 11, 152, 3);
        dueMid(x, 0, 2, 0, 43, 1);
        dueMid(x, 0, 2, 12, 52, 1);
        dueMid(x, 0, 2, 6, 97, 2);
        dueMid(x, 0, 2, 3, 46, 1);
        dueMid(x, 0, 2, 1, 793, 18);
    }

    private static void chokeIfItWasLess() {
        Doc.terms("the CHOKE is 5 ahead of it (if it was less)");
        PumpSpells x = behind("w501040 s9 s9", 0, 0, 0, 0);
        Checks.dueTold("CHOKE", x, x.tell(5), 4);
        Checks.dueTold("WATER", x, x.tell(0), 35);
        dueMid(x, 1, 1, 0, 31, 1);
        dueMid(x, 1, 1, 12, 35, 1);
        dueMid(x, 1, 1, 6, 33, 1);
        // the HOUR behind it is choked in any case
        dueMid(x, 1, 2, 6, 33, 1);
        x.act(1);
        Checks.dueTold("CHOKE", x, x.tell(5), 5);
        for (int p = 0; p <= 12; p += 6) {
            dueMid(x, 1, 1, p, 31, 1);
        }
        x.act(1);
        Checks.dueTold("CHOKE", x, x.tell(5), 6);
        for (int p = 0; p <= 12; p += 6) {
            dueMid(x, 1, 1, p, 31, 1);
        }
    }

    private static void noChanceWithoutPumping() {
        Doc.terms("in each HOUR of pumping");
        PumpSpells x = Checks.launch("w501240 g9");
        for (int p : new int[] {0, 1, 6, 11, 12}) {
            dueMid(x, 9, 2, p, 56, 1);
            dueMid(x, 6, 2, p, 56, 1);
            dueMid(x, 7, 3, p, 58, 1);
            dueMid(x, 8, 2, p, 54, 1);
            dueMid(x, 1, 2, p, 56, 1);
        }
    }

    private static void lowestTerms() {
        Doc.terms("Chances are told by upper(), lower(), in lowest terms, the lower number above 0 (0 by 1).");
        PumpSpells x = Checks.launch("w963040 g9");
        long[][] odds = {
            {1, 1}, {11, 12}, {5, 6}, {3, 4}, {2, 3}, {7, 12}, {1, 2}, {5, 12}, {1, 3}, {1, 4}, {1, 6}, {1, 12}, {0, 1},
        };
        for (int p = 0; p <= 12; p++) {
            dueOdds(x, 0, 1, p, odds[p][0], odds[p][1]);
        }
        PumpSpells y = Checks.launch("w001040 s9");
        dueMid(y, 0, 8, 5, 0, 1);
        dueOdds(behind("w961040 g6", 9), 0, 8, 5, 0, 1);
        // 96 as long as no HOUR is choked, else 100; the sixth HOUR is choked by those ahead of it
        PumpSpells z = Checks.launch("w963040 s9");
        dueOdds(z, 0, 5, 1, 161051, 248832);
        dueMid(z, 0, 5, 1, 6059749, 62208);
        dueOdds(z, 0, 5, 6, 1, 32);
        dueOdds(z, 0, 6, 1, 0, 1);
    }

    // ---- 35 odds

    private static void oddsAtTheBrim() {
        Doc.promise(35, "Chances that it is not SUNK behind n (0 .. 8) HOURS");
        // choked 99, 100, 101; else 95, 96, 97
        dueOdds(Checks.launch("w953040 g9"), 0, 1, 6, 1, 1);
        dueOdds(Checks.launch("w963040 g9"), 0, 1, 6, 1, 2);
        dueOdds(Checks.launch("w973040 g9"), 0, 1, 6, 1, 2);
        dueOdds(Checks.launch("w993040 g9"), 0, 1, 6, 1, 2);
        // not choked 100
        dueOdds(Checks.launch("w994040 g9"), 0, 1, 6, 0, 1);
        // SUNK on its way it stays so
        dueOdds(Checks.launch("w963040 g9"), 0, 2, 6, 1, 4);
    }

    private static void oddsByTwelfths() {
        Doc.promise(35, "by CHANCE of p (0 .. 12): 1.");
        PumpSpells x = Checks.launch("w963040 g9");
        dueOdds(x, 0, 1, 0, 1, 1);
        dueOdds(x, 0, 1, 1, 11, 12);
        dueOdds(x, 0, 1, 11, 1, 12);
        dueOdds(x, 0, 1, 12, 0, 1);
        dueOdds(x, 0, 2, 11, 1, 144);
        dueOdds(x, 0, 2, 1, 121, 144);
    }

    private static void oddsOfHours() {
        Doc.promise(35, "behind n (0 .. 8) HOURS");
        // 73, 76, 80, 84, 88, 92, 96, 100
        PumpSpells x = Checks.launch("w701040 g9");
        dueOdds(x, 9, 0, 6, 1, 1);
        dueOdds(x, 9, 1, 6, 1, 1);
        dueOdds(x, 9, 7, 6, 1, 1);
        dueOdds(x, 9, 8, 6, 0, 1);
        // 72, 75, 79, 83, 87, 91, 95, 99
        dueOdds(Checks.launch("w691040 g9"), 9, 8, 6, 1, 1);
        dueOdds(Checks.launch("w991040 g9"), 9, 0, 12, 1, 1);
        dueOdds(behind("w961040 g9", 9), 0, 0, 6, 0, 1);
    }

    private static void oddsTillLand() {
        Doc.promise(35, "(till LAND at most)");
        // 99 at LAND, SUNK in the HOUR behind it
        PumpSpells x = Checks.launch("w951001 g9");
        dueOdds(x, 9, 1, 6, 1, 1);
        dueOdds(x, 9, 2, 6, 1, 1);
        dueOdds(x, 9, 8, 6, 1, 1);
        dueMid(x, 9, 8, 6, 99, 1);
        PumpSpells y = Checks.launch("w951002 g9");
        dueOdds(y, 9, 1, 6, 1, 1);
        dueOdds(y, 9, 2, 6, 0, 1);
        // one HOUR of chance alone
        PumpSpells z = Checks.launch("w963001 g9");
        dueOdds(z, 0, 1, 1, 11, 12);
        dueOdds(z, 0, 8, 1, 11, 12);
        dueOdds(behind("w951001 g9", 9), 0, 8, 12, 1, 1);
    }

    private static void oddsCantBe() {
        Doc.promise(35, "of one ACT (one that can't be: 9)");
        PumpSpells x = Checks.launch("w951040 g9");
        for (int a : new int[] {1, 5, 7, 9}) {
            dueOdds(x, a, 1, 12, 1, 1);
            dueOdds(x, a, 2, 12, 0, 1);
            dueMid(x, a, 1, 12, 99, 1);
        }
        // CARGO for one HOUR: the second and third are as 9
        PumpSpells y = Checks.launch("w501140 g9");
        dueMid(y, 7, 3, 12, 59, 1);
        // the SAIL is set once
        dueMid(y, 8, 3, 12, 55, 1);
        x.act(8);
        dueMid(x, 8, 1, 12, 100, 1);
    }

    private static void oddsOutside() {
        Doc.promise(35, "BAD; STATE: no GANGS.");
        PumpSpells x = Checks.launch("w305140 g6");
        Checks.dueRange("odds(a, 0, 0)", x, a -> x.odds(a, 0, 0), 0, 9);
        Checks.dueRange("odds(0, n, 0)", x, n -> x.odds(0, n, 0), 0, 8);
        Checks.dueRange("odds(0, 0, p)", x, p -> x.odds(0, 0, p), 0, 12);
        PumpSpells y = new PumpSpells();
        Checks.dueBad("BAD ahead of STATE, ACT", y, a -> y.odds(a, 0, 0), -1, 10);
        Checks.dueBad("BAD ahead of STATE, HOURS", y, n -> y.odds(0, n, 0), -1, 9);
        Checks.dueBad("BAD ahead of STATE, twelfths", y, p -> y.odds(0, 0, p), -1, 13);
        Checks.dueRefused("odds(0, 0, 0) without GANGS", y, () -> y.odds(0, 0, 0), STATE);
        Checks.dueRefused("odds(9, 8, 12) without GANGS", y, () -> y.odds(9, 8, 12), STATE);
    }

    // ---- 36 mid

    private static void midThen() {
        Doc.promise(36, "The mean of WATER then");
        PumpSpells x = Checks.launch("w501040 g9");
        dueMid(x, 0, 0, 6, 50, 1);
        dueMid(x, 0, 1, 6, 49, 1);
        dueMid(x, 0, 1, 3, 48, 1);
        dueMid(x, 0, 1, 9, 50, 1);
        dueMid(Checks.launch("w001040 g9"), 0, 1, 6, 0, 1);
        // 5 less 6 is none, choked 5 less 2
        dueMid(Checks.launch("w041040 g9"), 0, 1, 6, 3, 2);
    }

    private static void midSunkIsAHundred() {
        Doc.promise(36, "(SUNK: 100): 1.");
        dueMid(Checks.launch("w953040 g9"), 0, 1, 12, 99, 1);
        dueMid(Checks.launch("w963040 g9"), 0, 1, 12, 100, 1);
        dueMid(Checks.launch("w973040 g9"), 0, 1, 12, 100, 1);
        dueMid(Checks.launch("w999040 g9"), 9, 1, 0, 100, 1);
        dueMid(behind("w999040 g9", 9), 9, 0, 0, 100, 1);
        dueMid(behind("w999040 g9", 9), 0, 8, 5, 100, 1);
        // 97, or choked 101
        dueMid(Checks.launch("w973040 g9"), 0, 1, 6, 197, 2);
    }

    private static void midOfHours() {
        Doc.promise(36, "The mean of WATER then");
        PumpSpells x = Checks.launch("w701040 g9");
        int[] water = {70, 73, 76, 80, 84, 88, 92, 96, 100};
        for (int n = 0; n <= 8; n++) {
            dueMid(x, 9, n, 6, water[n], 1);
        }
        PumpSpells y = Checks.launch("w701002 g9");
        dueMid(y, 9, 1, 6, 73, 1);
        dueMid(y, 9, 2, 6, 76, 1);
        dueMid(y, 9, 3, 6, 76, 1);
    }

    private static void midOutside() {
        Doc.promise(36, "BAD; STATE.");
        PumpSpells x = Checks.launch("w305140 g6");
        Checks.dueRange("mid(a, 0, 0)", x, a -> x.mid(a, 0, 0), 0, 9);
        Checks.dueRange("mid(0, n, 0)", x, n -> x.mid(0, n, 0), 0, 8);
        Checks.dueRange("mid(0, 0, p)", x, p -> x.mid(0, 0, p), 0, 12);
        PumpSpells y = new PumpSpells();
        Checks.dueBad("BAD ahead of STATE, ACT", y, a -> y.mid(a, 0, 0), -1, 10);
        Checks.dueBad("BAD ahead of STATE, HOURS", y, n -> y.mid(0, n, 0), -1, 9);
        Checks.dueBad("BAD ahead of STATE, twelfths", y, p -> y.mid(0, 0, p), -1, 13);
        Checks.dueRefused("mid(0, 0, 0) without GANGS", y, () -> y.mid(0, 0, 0), STATE);
        Checks.dueRefused("mid(9, 8, 12) without GANGS", y, () -> y.mid(9, 8, 12), STATE);
    }

    // ---- 37 lots

    private static void dueLots(String text, int n, int seed, int... acts) {
        PumpSpells x = Checks.launch(text);
        PumpSpells y = behind(text, acts);
        Checks.due("lots(" + n + ", " + seed + ")", x.lots(n, seed), acts.length);
        Checks.due("lots(" + n + ", " + seed + ") as by its ACTS", x.digest(), y.digest());
    }

    private static void lotsOfASeed() {
        Doc.terms("LOTS: a number comes from the one ahead by 48271 times it modulo 2147483647, the first from a seed");
        // 48271, 182605794, 1291394886, 1914720637, 2078669041, 407355683, 1105902161; of 0 1 6 7 8 9
        String text = "w301240 g6 r9";
        dueLots(text, 1, 1, 1);
        dueLots(text, 2, 1, 1, 0);
        dueLots(text, 7, 1, 1, 0, 0, 1, 1, 9, 9);
        // going on from the number before is the same
        dueLots(text, 1, 48271, 0);
        dueLots(text, 2, 1914720637, 1, 9);
        dueLots(text, 1, 407355683, 9);
    }

    private static void lotsWrapAround() {
        Doc.terms("a seed (1 .. 2147483646)");
        // 2147483646 is one less than none: its first number is 2147435376, at 0 of six
        String text = "w301240 g6 r9";
        dueLots(text, 1, 2147483646, 0);
        // twice as much: 2147387105, at 5 of six
        dueLots(text, 1, 2147483645, 9);
        dueLots(text, 1, 2, 6);
    }

    private static void lotsAmongThoseThatCanBe() {
        Doc.promise(37, "for each a number: of ACTS that can be the one at it modulo how many there are");
        // 48271 of 3: at 1 (0 6 9); 182605794 of 3: at 0
        PumpSpells x = behind("w301040 g6", 8);
        Checks.due("lots(2, 1)", x.lots(2, 1), 2);
        PumpSpells y = behind("w301040 g6", 8, 6, 0);
        Checks.due("of three ACTS", x.digest(), y.digest());
        // 48271 of 4: at 3 (0 6 8 9); of 5: at 1 (0 6 7 8 9); of 10: at 1
        dueLots("w301040 g6", 1, 1, 9);
        dueLots("w301140 g6", 1, 1, 6);
        dueLots(Checks.ALL_KINDS, 1, 1, 1);
        // 96542 of 4: at 2, the SAIL; then three are left: 365211588 at 0
        dueLots("w301040 g6", 2, 2, 8, 0);
        // 144813 of 5: at 3 (0 6 7 8 9); then of 4: 547817382 at 2, the CARGO; then of 3: 1726701011 at 2
        dueLots("w301140 g6", 3, 3, 8, 7, 9);
    }

    private static void lotsTruly() {
        Doc.promise(37, "HOURS truly by LOTS of a seed");
        PumpSpells x = Checks.launch("w301240 g6 r9");
        int asked = x.asked();
        Checks.due("lots(7, 1)", x.lots(7, 1), 7);
        Checks.due("asked() stays", x.asked(), asked);
        Checks.dueTold("HOURS", x, x.tell(6), 7);
        Checks.due("undone", x.undo(5), 2);
        PumpSpells y = behind("w301240 g6 r9", 1, 0, 0, 1, 1);
        Checks.due("as by its ACTS", x.digest(), y.digest());
    }

    private static void lotsOfHours() {
        Doc.promise(37, "n (1 .. 20) HOURS");
        for (int n : new int[] {1, 2, 19, 20}) {
            PumpSpells x = Checks.launch("w001040 s9 s9");
            Checks.due("lots(" + n + ", 5)", x.lots(n, 5), n);
            Checks.dueTold("HOURS", x, x.tell(6), n);
        }
        PumpSpells x = Checks.launch("w001040 s9 s9");
        Checks.due("twenty", x.lots(20, 5), 20);
        Checks.due("and twenty", x.lots(20, 5), 20);
        Checks.due("and none", x.lots(20, 5), 0);
    }

    private static void lotsTillSunkOrLand() {
        Doc.promise(37, "till SUNK, at LAND: how many passed.");
        for (int hours : new int[] {1, 2, 3}) {
            for (int n : new int[] {1, 2, 3, 4}) {
                PumpSpells x = Checks.launch("w00100" + hours + " s9");
                Checks.due("lots(" + n + ") of " + hours, x.lots(n, 9), Math.min(n, hours));
            }
        }
        PumpSpells x = Checks.launch("w979040 g1");
        Checks.due("SUNK in the first HOUR", x.lots(20, 5), 1);
        Checks.dueTold("SUNK", x, x.tell(8), 1);
        Checks.due("SUNK already", x.lots(1, 5), 0);
        PumpSpells y = behind("w001001 g1", 9);
        Checks.due("at LAND already", y.lots(1, 5), 0);
    }

    private static void lotsOutside() {
        Doc.promise(37, "BAD; STATE: no GANGS.");
        PumpSpells x = Checks.launch("w001040 s9 s9");
        Checks.dueRange("lots(n, 1)", x, n -> x.lots(n, 1), 1, 20);
        PumpSpells z = Checks.launch("w001040 s9 s9");
        Checks.dueRange("lots(1, seed)", z, seed -> z.lots(1, seed), 1, 2147483646);
        Checks.due("two of them", z.count(2), 2);
        PumpSpells y = new PumpSpells();
        Checks.dueBad("BAD ahead of STATE, HOURS", y, n -> y.lots(n, 1), 0, 21, MIN, MAX);
        Checks.dueBad("BAD ahead of STATE, seed", y, seed -> y.lots(1, seed), 0, -1, MIN, MAX);
        Checks.dueRefused("lots(1, 1) without GANGS", y, () -> y.lots(1, 1), STATE);
        Checks.dueRefused("lots(20, 2147483646) without GANGS", y, () -> y.lots(20, 2147483646), STATE);
    }
}
