/** Promises 35 to 37. */
public final class ChanceTest {
    private static final int BAD = PumpSpells.BAD, STATE = PumpSpells.STATE;

    public static void main(String[] args) {
        oneHour();
        twoHours();
        withoutChance();
        againstHours("w855009 g6 r9 s1", 0, 6);
        againstHours("w855009 g6 r9 s1", 1, 5);
        againstHours("w855009 g6 r9 s1", 2, 4);
        againstHours("w756940 l3 c5 f9", 0, 7);
        againstHours("w756940 l3 c5 f9", 1, 7);
        againstHours("w756940 l3 c5 f9", 2, 4);
        otherActs();
        chokedAlready();
        ended();
        chanceRefused();
        lots();
        lotsToTheEnd();
        lotsRefused();
        Checks.end("ChanceTest");
    }

    private static void oneHour() {
        // 95 and 3 + 3 leak: a gang pumps 6, choked 2
        PumpSpells x = Checks.launch("w953009 g6");
        long digest = x.digest();
        Checks.dueChance("odds(0, 1, 3)", x, x.odds(0, 1, 3), 1, 1);
        Checks.dueChance("mid(0, 1, 3)", x, x.mid(0, 1, 3), 96, 1);
        Checks.dueChance("mid(0, 1, 4)", x, x.mid(0, 1, 4), 289, 3);
        Checks.due("aside", x.digest(), digest);
        // 97 and 6: choked it is 101
        PumpSpells y = Checks.launch("w973009 g6");
        Checks.dueChance("odds(0, 1, 3)", y, y.odds(0, 1, 3), 3, 4);
        Checks.dueChance("odds(0, 1, 5)", y, y.odds(0, 1, 5), 7, 12);
        Checks.dueChance("odds(0, 1, 12)", y, y.odds(0, 1, 12), 0, 1);
        Checks.dueChance("odds(0, 1, 0)", y, y.odds(0, 1, 0), 1, 1);
        Checks.dueChance("mid(0, 1, 3): SUNK is 100", y, y.mid(0, 1, 3), 391, 4);
        Checks.dueChance("mid(0, 1, 12)", y, y.mid(0, 1, 12), 100, 1);
    }

    private static void twoHours() {
        // choked ahead of the first hour it stays choked in the second
        PumpSpells x = Checks.launch("w953009 g6");
        Checks.dueChance("mid(0, 2, 6)", x, x.mid(0, 2, 6), 197, 2);
        Checks.dueChance("odds(0, 2, 6)", x, x.odds(0, 2, 6), 1, 2);
    }

    private static void withoutChance() {
        PumpSpells x = Checks.launch("w855009 g6");
        Checks.dueChance("mid(0, 0, 7)", x, x.mid(0, 0, 7), 85, 1);
        Checks.dueChance("odds(0, 0, 7)", x, x.odds(0, 0, 7), 1, 1);
        Checks.dueChance("mid(0, 4, 0)", x, x.mid(0, 4, 0), 96, 1);
        Checks.dueChance("odds(0, 4, 0)", x, x.odds(0, 4, 0), 1, 1);
        Checks.dueChance("odds(0, 5, 0)", x, x.odds(0, 5, 0), 0, 1);
        Checks.dueChance("mid(0, 8, 0)", x, x.mid(0, 8, 0), 100, 1);
    }

    /**
     * odds(), mid() as true hours tell them. A choke of 5 can't be brought about by a call, so that
     * hours that choke are built of what a GANG would pump with and without it.
     */
    private static void againstHours(String text, int a, int p) {
        for (int n = 0; n <= 8; n++) {
            PumpSpells x = Checks.launch(text);
            long[] sums = new long[2];
            walk(stateOf(x, a), n, p, 1, sums);
            long whole = (long) Math.pow(12, n);
            dueLowest("odds of " + text, x, x.odds(a, n, p), sums[0], whole);
            dueLowest("mid of " + text, x, x.mid(a, n, p), sums[1], whole);
        }
    }

    private static void dueLowest(String what, PumpSpells x, int answer, long part, long whole) {
        long shared = java.math.BigInteger.valueOf(part).gcd(java.math.BigInteger.valueOf(whole)).longValue();
        Checks.dueChance(what, x, answer, part / shared, whole / shared);
    }

    /** WATER, LEAK, HOURS left, CHOKE, KIND, STRENGTH of the one GANG that pumps. */
    private static int[] stateOf(PumpSpells x, int a) {
        int water = Checks.told(x, 0);
        return new int[] {water, Checks.told(x, 1) - water / 25, Checks.told(x, 7), Checks.told(x, 5),
            Checks.ofGang(x, a, 0), Checks.ofGang(x, a, 2)};
    }

    private static void walk(int[] s, int n, int p, long weight, long[] sums) {
        if (n == 0 || s[0] > 99 || s[2] == 0) {
            long all = weight * (long) Math.pow(12, n);
            sums[0] += s[0] > 99 ? 0 : all;
            sums[1] += all * Math.min(100, s[0]);
            return;
        }
        int[] pumps = {6, 9, 6, 3, 9, 7};
        int[] costs = {2, 4, 1, 2, 4, 1};
        for (int choked = 0; choked <= 1; choked++) {
            int choke = choked == 1 && s[3] < 5 ? 5 : s[3];
            int much = s[5] < costs[s[4]] && s[4] != 4 ? pumps[s[4]] / 2 : pumps[s[4]];
            much = choke >= 5 ? much / 3 : much;
            int[] next = s.clone();
            next[0] = Math.max(0, s[0] + s[1] + s[0] / 25 - much);
            next[2]--;
            next[3] = choke + (s[4] == 1 || s[4] == 4 ? 2 : 1);
            next[5] = Math.max(0, s[5] - costs[s[4]]);
            walk(next, n - 1, p, weight * (choked == 1 ? p : 12 - p), sums);
        }
    }

    private static void otherActs() {
        PumpSpells x = Checks.launch("w305204 g6 r9");
        for (int p = 0; p <= 12; p += 4) {
            Checks.dueChance("mid(9, 2, p)", x, x.mid(9, 2, p), 42, 1);
            Checks.dueChance("mid(4, 2, p), which can't be", x, x.mid(4, 2, p), 42, 1);
            Checks.dueChance("mid(8, 3, p), once", x, x.mid(8, 3, p), 42, 1);
            Checks.dueChance("mid(7, 4, p), twice", x, x.mid(7, 4, p), 52, 1);
            Checks.dueChance("mid(6, 8, p), till LAND", x, x.mid(6, 8, p), 54, 1);
            Checks.dueChance("odds(6, 8, p)", x, x.odds(6, 8, p), 1, 1);
        }
    }

    private static void chokedAlready() {
        PumpSpells x = Checks.launch(Checks.ALL_KINDS);
        x.act(1);
        x.act(1);
        x.act(1);
        Checks.due("CHOKE", Checks.told(x, 5), 6);
        Checks.dueChance("mid(0, 1, 6)", x, x.mid(0, 1, 6), 29, 1);
        Checks.dueChance("mid(0, 1, 0)", x, x.mid(0, 1, 0), 29, 1);
    }

    private static void ended() {
        PumpSpells x = Checks.launch("w205201 g6");
        x.act(9);
        Checks.dueChance("odds at LAND", x, x.odds(0, 8, 5), 1, 1);
        Checks.dueChance("mid at LAND", x, x.mid(0, 8, 5), 25, 1);
        PumpSpells y = Checks.launch("w999209 g6");
        y.act(9);
        Checks.dueChance("odds SUNK", y, y.odds(0, 8, 5), 0, 1);
        Checks.dueChance("mid SUNK", y, y.mid(0, 8, 5), 100, 1);
        Checks.dueChance("mid SUNK, no hours", y, y.mid(0, 0, 5), 100, 1);
        Checks.dueChance("odds SUNK, no hours", y, y.odds(0, 0, 5), 0, 1);
    }

    private static void chanceRefused() {
        PumpSpells x = new PumpSpells();
        chanceBad(x);
        Checks.dueRefused("odds without gangs", x, () -> x.odds(0, 0, 0), STATE);
        Checks.dueRefused("mid without gangs", x, () -> x.mid(0, 0, 0), STATE);
        PumpSpells y = Checks.launch("w953009 g6");
        y.odds(0, 1, 3);
        chanceBad(y);
    }

    private static void chanceBad(PumpSpells x) {
        int[][] bad = {{-1, 0, 0}, {10, 0, 0}, {0, -1, 0}, {0, 9, 0}, {0, 0, -1}, {0, 0, 13}};
        for (int[] b : bad) {
            Checks.dueRefused("odds", x, () -> x.odds(b[0], b[1], b[2]), BAD);
            Checks.dueRefused("mid", x, () -> x.mid(b[0], b[1], b[2]), BAD);
        }
    }

    /** The ACTS that LOTS of a seed bring, done one by one by act(). */
    private static int byActs(PumpSpells y, int n, int seed) {
        long number = seed;
        int passed = 0;
        for (int h = 0; h < n && y.can() != 0; h++) {
            number = number * 48271 % 2147483647;
            int set = y.can();
            int left = (int) (number % Integer.bitCount(set));
            int a = 0;
            while ((set >> a & 1) == 0 || left-- > 0) {
                a++;
            }
            y.act(a);
            passed++;
        }
        return passed;
    }

    private static void lots() {
        // the first number of 1 is 48271: of six ACTS (0 1 6 7 8 9) the one at 1
        PumpSpells z = Checks.launch("w305240 g6 r9");
        Checks.due("lots(1, 1)", z.lots(1, 1), 1);
        Checks.due("by the racing one", Checks.told(z, 0), 27);
        int[] seeds = {1, 2, 77, 48271, 1000000007, 2147483646};
        for (int seed : seeds) {
            PumpSpells x = Checks.launch("w305940 g6 r9 c2");
            PumpSpells y = Checks.launch("w305940 g6 r9 c2");
            Checks.due("lots(20, " + seed + ")", x.lots(20, seed), byActs(y, 20, seed));
            Checks.due("digest behind lots", x.digest(), y.digest());
            int hours = Checks.told(x, 6);
            Checks.due("lots can be undone", x.undo(3), hours - 3);
            Checks.due("as acts", y.undo(3), hours - 3);
            Checks.due("digest behind undo", x.digest(), y.digest());
        }
    }

    private static void lotsToTheEnd() {
        PumpSpells x = Checks.launch("w005203 g6");
        Checks.due("till LAND", x.lots(20, 5), 3);
        Checks.due("at LAND", x.lots(20, 5), 0);
        PumpSpells y = Checks.launch("w979040 g1");
        Checks.due("till SUNK", y.lots(20, 5), 1);
        Checks.due("SUNK", Checks.told(y, 8), 1);
        Checks.due("SUNK already", y.lots(20, 5), 0);
    }

    private static void lotsRefused() {
        PumpSpells x = new PumpSpells();
        Checks.dueRefused("lots without gangs", x, () -> x.lots(1, 1), STATE);
        Checks.dueRefused("lots(0, 1) without gangs", x, () -> x.lots(0, 1), BAD);
        Checks.relaunch(x, "w305940 g6 r9 c2");
        Checks.dueRefused("lots(0, 1)", x, () -> x.lots(0, 1), BAD);
        Checks.dueRefused("lots(21, 1)", x, () -> x.lots(21, 1), BAD);
        Checks.dueRefused("lots(-1, 1)", x, () -> x.lots(-1, 1), BAD);
        Checks.dueRefused("lots(1, 0)", x, () -> x.lots(1, 0), BAD);
        Checks.dueRefused("lots(1, -1)", x, () -> x.lots(1, -1), BAD);
        Checks.dueRefused("lots(1, MAX)", x, () -> x.lots(1, Integer.MAX_VALUE), BAD);
    }
}
