/** What 'Terms' says of STRENGTH and of a CHOKE at the pump, and promises 12 to 14. */
public final class GangsEdgesTest {
    private static final int BAD = PumpSpells.BAD, FINDING = PumpSpells.FINDING;
    private static final int UNLIKE = 3;
    private static final int MIN = Integer.MIN_VALUE, MAX = Integer.MAX_VALUE;
    private static final String LETTERS = "grsflc";
    private static final int[] FULL = {6, 9, 6, 3, 9, 7};
    private static final int[] HALF = {3, 4, 3, 1, 9, 3};
    private static final int[] THIRD = {2, 3, 2, 1, 3, 2};
    private static final int[] THIRD_OF_HALF = {1, 1, 1, 0, 3, 1};
    private static final int[] COST = {2, 4, 1, 2, 4, 1};

    public static void main(String[] args) {
        strengthIsForceAtFirst();
        strengthIsForceAtMost();
        pumpsOfStrength();
        withLessStrength();
        withoutStrength();
        allOthersHaveOneMore();
        chokeOfFive();
        chokedWithoutStrength();
        gangTellsFive();
        gangOutside();
        markOfRacingOnes();
        markOfSungOnes();
        markOfFeignedOnes();
        markOfLastOnes();
        markOfChoirs();
        markOutside();
        markUnlike();
        forceTellsWhatItWas();
        forceLimitsStrength();
        forceOutside();
        Checks.end("GangsEdgesTest");
    }

    private static void dueGang(String when, PumpSpells x, int i, int strength, int pumps, int behind) {
        Checks.dueTold(when + ": STRENGTH", x, x.gang(i, 2), strength);
        Checks.dueTold(when + ": would PUMP", x, x.gang(i, 3), pumps);
        Checks.dueTold(when + ": STRENGTH behind that", x, x.gang(i, 4), behind);
    }

    /** GANG 0 goes to the pump: WATER is less by what it PUMPS, and its STRENGTH is what was told. */
    private static void dueHour(String when, PumpSpells x, int pumps, int behind) {
        int water = Checks.told(x, 0) + Checks.told(x, 1) - pumps;
        Checks.due(when + ": WATER behind the HOUR", x.act(0), water);
        Checks.dueTold(when + ": STRENGTH behind the HOUR", x, x.gang(0, 2), behind);
    }

    private static PumpSpells shipOf(int kind, int force) {
        return Checks.launch("w501040 " + LETTERS.charAt(kind) + force + " s9");
    }

    private static void choke(PumpSpells x, int hours) {
        for (int h = 0; h < hours; h++) {
            x.act(1);
        }
    }

    // ---- Terms

    private static void strengthIsForceAtFirst() {
        Doc.terms("STRENGTH is FORCE at first, and at most.");
        for (int kind = 0; kind < 6; kind++) {
            for (int force = 1; force <= 9; force++) {
                PumpSpells x = shipOf(kind, force);
                Checks.dueTold("FORCE", x, x.gang(0, 1), force);
                Checks.dueTold("STRENGTH at first", x, x.gang(0, 2), force);
            }
        }
    }

    private static void strengthIsForceAtMost() {
        Doc.terms("STRENGTH is FORCE at first, and at most.");
        for (int force : new int[] {1, 2, 8, 9}) {
            PumpSpells x = shipOf(2, force);
            x.act(9);
            Checks.dueTold("no more than FORCE " + force, x, x.gang(0, 2), force);
            x.act(0);
            Checks.dueTold("one less", x, x.gang(0, 2), force - 1);
            x.act(9);
            Checks.dueTold("FORCE again", x, x.gang(0, 2), force);
            x.act(9);
            Checks.dueTold("no more than FORCE", x, x.gang(0, 2), force);
        }
    }

    private static void pumpsOfStrength() {
        Doc.terms("A GANG at the pump PUMPS 6 in an HOUR, of STRENGTH 2; a RACING one (LAST, too) 9, of 4; "
            + "a SUNG one 6, of 1 (CHOIR 7, of 1); a FEIGNED one 3, of 2.");
        for (int kind = 0; kind < 6; kind++) {
            for (int force = COST[kind]; force <= 9; force++) {
                PumpSpells x = shipOf(kind, force);
                String when = "KIND " + kind + " of " + force;
                dueGang(when, x, 0, force, FULL[kind], force - COST[kind]);
                dueHour(when, x, FULL[kind], force - COST[kind]);
            }
        }
    }

    private static void withLessStrength() {
        Doc.terms("With less STRENGTH than that it PUMPS half (cut; a LAST one as much as else), and has 0 then.");
        for (int kind = 0; kind < 6; kind++) {
            for (int force = 1; force < COST[kind]; force++) {
                PumpSpells x = shipOf(kind, force);
                String when = "KIND " + kind + " of " + force;
                dueGang(when, x, 0, force, HALF[kind], 0);
                dueHour(when, x, HALF[kind], 0);
            }
        }
    }

    private static void withoutStrength() {
        Doc.terms("With less STRENGTH than that it PUMPS half (cut; a LAST one as much as else), and has 0 then.");
        for (int kind = 0; kind < 6; kind++) {
            PumpSpells x = shipOf(kind, COST[kind]);
            x.act(0);
            String when = "KIND " + kind + " without STRENGTH";
            dueGang(when, x, 0, 0, HALF[kind], 0);
            dueHour(when, x, HALF[kind], 0);
        }
    }

    private static void allOthersHaveOneMore() {
        Doc.terms("All others have 1 more, FORCE at most.");
        PumpSpells x = Checks.launch("w501940 s9 s9 s1 s9 s9 s9");
        for (int a = 0; a < 6; a++) {
            x.act(a);
            x.act(a);
        }
        // each was two HOURS at the pump, and rested in those behind them
        int[] strengths = {9, 9, 1, 9, 9, 7};
        for (int i = 0; i < 6; i++) {
            Checks.dueTold("STRENGTH of " + i, x, x.gang(i, 2), strengths[i]);
        }
        for (int a = 6; a <= 9; a++) {
            PumpSpells y = Checks.launch("w501940 r9 g4");
            y.act(0);
            y.act(a);
            Checks.dueTold("one more by ACT " + a, y, y.gang(0, 2), 6);
            Checks.dueTold("FORCE at most by ACT " + a, y, y.gang(1, 2), 4);
        }
    }

    private static void chokeOfFive() {
        Doc.terms("With a CHOKE of 5 or more (ahead of the HOUR) a GANG PUMPS a third of what it would (cut).");
        for (int kind = 0; kind < 6; kind++) {
            for (int choke = 4; choke <= 6; choke++) {
                for (int force = 1; force <= 9; force++) {
                    PumpSpells x = shipOf(kind, force);
                    choke(x, choke);
                    Checks.dueTold("CHOKE", x, x.tell(5), choke);
                    boolean weak = force < COST[kind];
                    int open = weak ? HALF[kind] : FULL[kind];
                    int choked = weak ? THIRD_OF_HALF[kind] : THIRD[kind];
                    String when = "KIND " + kind + " of " + force + " by a CHOKE of " + choke;
                    int behind = weak ? 0 : force - COST[kind];
                    dueGang(when, x, 0, force, choke < 5 ? open : choked, behind);
                    dueHour(when, x, choke < 5 ? open : choked, behind);
                }
            }
        }
    }

    private static void chokedWithoutStrength() {
        Doc.terms("a GANG PUMPS a third of what it would (cut).");
        for (int kind = 0; kind < 6; kind++) {
            for (int choke = 4; choke <= 6; choke++) {
                PumpSpells x = shipOf(kind, COST[kind]);
                choke(x, choke - (kind == 1 || kind == 4 ? 2 : 1));
                x.act(0);
                Checks.dueTold("CHOKE", x, x.tell(5), choke);
                int pumps = choke < 5 ? HALF[kind] : THIRD_OF_HALF[kind];
                dueGang("KIND " + kind + " without STRENGTH by a CHOKE of " + choke, x, 0, 0, pumps, 0);
                dueHour("KIND " + kind + " without STRENGTH by a CHOKE of " + choke, x, pumps, 0);
            }
        }
    }

    // ---- 12 gang

    private static void gangTellsFive() {
        Doc.promise(12, "Of a GANG: 0 the KIND, 1 the FORCE, 2 the STRENGTH, 3 what it would PUMP now, "
            + "4 its STRENGTH behind that, told by asked(): 1.");
        PumpSpells x = Checks.launch(Checks.ALL_KINDS);
        x.act(1);
        int[][] told = {
            {0, 6, 6, 6, 4}, {1, 9, 5, 9, 1}, {2, 4, 4, 6, 3}, {3, 5, 5, 3, 3}, {4, 7, 7, 9, 3}, {5, 3, 3, 7, 2},
        };
        for (int i = 0; i < 6; i++) {
            for (int what = 0; what <= 4; what++) {
                Checks.dueTold("gang(" + i + ", " + what + ")", x, x.gang(i, what), told[i][what]);
            }
        }
        PumpSpells y = Checks.launch("w999001 g1");
        y.act(9);
        dueGang("when SUNK", y, 0, 1, 3, 0);
        PumpSpells z = Checks.launch("w001001 g1");
        z.act(9);
        dueGang("at LAND", z, 0, 1, 3, 0);
    }

    private static void gangOutside() {
        Doc.promise(12, "BAD.");
        for (int n = 1; n <= 6; n++) {
            PumpSpells x = Checks.launch("w305314" + "g6".repeat(n));
            Checks.dueRange("gang of " + n, x, i -> x.gang(i, 0), 0, n - 1);
        }
        PumpSpells x = Checks.launch("w305314 g6");
        Checks.dueRange("gang(0, what)", x, what -> x.gang(0, what), 0, 4);
        PumpSpells y = new PumpSpells();
        Checks.dueBad("gang of no SHIP", y, i -> y.gang(i, 0), -1, 0, 1, 5, 6);
    }

    // ---- 13 mark

    private static void markOfRacingOnes() {
        Doc.promise(13, "a RACING one (LAST, too) for how many HOURS on end its STRENGTH is enough");
        int[] hours = {0, 0, 0, 0, 1, 1, 1, 1, 2, 2};
        for (int force = 1; force <= 9; force++) {
            Checks.due("mark of r" + force, shipOf(1, force).mark(0, 1), hours[force]);
            Checks.due("mark of l" + force, shipOf(4, force).mark(0, 1), hours[force]);
        }
        PumpSpells x = shipOf(1, 4);
        x.act(0);
        Checks.due("mark without STRENGTH", x.mark(0, 1), 0);
        PumpSpells y = shipOf(4, 9);
        y.act(0);
        Checks.due("mark of a LAST one of 5", y.mark(0, 1), 1);
        choke(y, 5);
        Checks.due("a CHOKE does not matter", y.mark(0, 1), 2);
    }

    private static void markOfSungOnes() {
        Doc.promise(13, "a SUNG one (CHOIR, too) its STRENGTH behind three HOURS at the pump");
        int[] behind = {0, 0, 0, 0, 1, 2, 3, 4, 5, 6};
        for (int force = 1; force <= 9; force++) {
            Checks.due("mark of s" + force, shipOf(2, force).mark(0, 2), behind[force]);
            Checks.due("mark of c" + force, shipOf(5, force).mark(0, 2), behind[force]);
        }
        PumpSpells x = shipOf(2, 1);
        x.act(0);
        Checks.due("mark without STRENGTH", x.mark(0, 2), 0);
    }

    private static void markOfFeignedOnes() {
        Doc.promise(13, "a FEIGNED one by how much less it would PUMP now than a GANG of KIND 0 of its STRENGTH");
        for (int force = 1; force <= 9; force++) {
            Checks.due("mark of f" + force, shipOf(3, force).mark(0, 3), force < 2 ? 2 : 3);
            PumpSpells x = shipOf(3, force);
            choke(x, 4);
            Checks.due("by a CHOKE of 4", x.mark(0, 3), force < 2 ? 2 : 3);
            choke(x, 1);
            Checks.due("by a CHOKE of 5", x.mark(0, 3), 1);
        }
        PumpSpells x = shipOf(3, 2);
        x.act(0);
        Checks.due("mark without STRENGTH", x.mark(0, 3), 2);
    }

    private static void markOfLastOnes() {
        Doc.promise(13, "a LAST one what it would PUMP now without STRENGTH");
        for (int force = 1; force <= 9; force++) {
            PumpSpells x = shipOf(4, force);
            Checks.due("mark of l" + force, x.mark(0, 4), 9);
            choke(x, 4);
            Checks.due("by a CHOKE of 4", x.mark(0, 4), 9);
            choke(x, 1);
            Checks.due("by a CHOKE of 5", x.mark(0, 4), 3);
        }
    }

    private static void markOfChoirs() {
        Doc.promise(13, "a CHOIR how many SUNG ones (itself, too) have STRENGTH enough.");
        Checks.due("a CHOIR alone", Checks.launch("w501040 c1").mark(0, 5), 1);
        Checks.due("six of them", Checks.launch("w501040 c1s1c1s1c1s1").mark(4, 5), 6);
        Checks.due("one among others", Checks.launch("w501040 g9r9f9l9 c9").mark(4, 5), 1);
        PumpSpells x = Checks.launch("w501040 s1 c1 s2 c2");
        Checks.due("all four", x.mark(1, 5), 4);
        x.act(0);
        Checks.due("without a SUNG one of 0", x.mark(1, 5), 3);
        x.act(1);
        Checks.due("without itself; the SUNG one rested", x.mark(1, 5), 3);
        x.act(2);
        Checks.due("a SUNG one of 1 has enough", x.mark(3, 5), 4);
        x.act(2);
        Checks.due("a SUNG one of 0 has not", x.mark(3, 5), 3);
        PumpSpells y = Checks.launch("w501040 c1");
        y.act(0);
        Checks.due("a CHOIR alone without STRENGTH", y.mark(0, 5), 0);
    }

    private static void markOutside() {
        Doc.promise(13, "BAD: also KIND 0");
        PumpSpells x = Checks.launch(Checks.ALL_KINDS);
        Checks.dueRange("mark(1, kind)", x, kind -> x.mark(1, kind), 1, 5);
        PumpSpells v = Checks.launch(Checks.ALL_KINDS);
        Checks.dueRange("mark(i, 1)", v, i -> v.mark(i, 1), 0, 5);
        PumpSpells y = Checks.launch("w305314 r6");
        Checks.dueBad("mark(i, 1) of one", y, i -> y.mark(i, 1), -1, 1, 5, 6);
        Checks.dueRefused("KIND 0 of a GANG of KIND 0", x, () -> x.mark(0, 0), BAD);
        PumpSpells z = new PumpSpells();
        Checks.dueBad("mark of no SHIP", z, i -> z.mark(i, 1), -1, 0, 6);
        Checks.dueBad("KIND 0 of no SHIP", z, i -> z.mark(i, 0), 0);
    }

    private static void markUnlike() {
        Doc.promise(13, "What a GANG that IS of a KIND tells");
        Doc.promise(13, "UNLIKE.");
        boolean[][] is = {
            {false, false, false, false, false},
            {true, false, false, false, false},
            {false, true, false, false, false},
            {false, false, true, false, false},
            {true, false, false, true, false},
            {false, true, false, false, true},
        };
        for (int i = 0; i < 6; i++) {
            PumpSpells x = Checks.launch(Checks.ALL_KINDS);
            for (int kind = 1; kind <= 5; kind++) {
                int gang = i;
                int other = kind;
                if (is[i][kind - 1]) {
                    Checks.due("mark(" + i + ", " + kind + ")", x.mark(i, kind) == FINDING ? 1 : 0, 0);
                } else {
                    Checks.dueFinding("mark(" + i + ", " + kind + ")", x, () -> x.mark(gang, other), UNLIKE);
                }
            }
            Checks.dueRefused("BAD ahead of UNLIKE", x, () -> x.mark(0, 6), BAD);
        }
    }

    // ---- 14 force

    private static void forceTellsWhatItWas() {
        Doc.promise(14, "The FORCE of a GANG is v (1 .. 9;");
        Doc.promise(14, "what it was. BAD.");
        PumpSpells x = Checks.launch("w305314 g6 r9");
        int was = 6;
        for (int v = 1; v <= 9; v++) {
            Checks.due("force(0, " + v + ")", x.force(0, v), was);
            Checks.dueTold("FORCE", x, x.gang(0, 1), v);
            was = v;
        }
        Checks.due("force(0, 9) again", x.force(0, 9), 9);
        Checks.dueTold("the other's FORCE", x, x.gang(1, 1), 9);
    }

    private static void forceLimitsStrength() {
        Doc.promise(14, "its STRENGTH no more than that then)");
        for (int v : new int[] {4, 5, 6}) {
            PumpSpells x = Checks.launch("w305314 s9 s9");
            for (int h = 0; h < 4; h++) {
                x.act(0);
            }
            Checks.dueTold("STRENGTH", x, x.gang(0, 2), 5);
            Checks.due("force(0, " + v + ")", x.force(0, v), 9);
            Checks.dueTold("STRENGTH by FORCE " + v, x, x.gang(0, 2), Math.min(5, v));
            Checks.dueTold("the other's STRENGTH", x, x.gang(1, 2), 9);
        }
        PumpSpells x = Checks.launch("w305314 s9");
        x.force(0, 1);
        Checks.dueTold("STRENGTH by FORCE 1", x, x.gang(0, 2), 1);
        x.force(0, 9);
        Checks.dueTold("it does not come back", x, x.gang(0, 2), 1);
        x.act(9);
        Checks.dueTold("it grows by rest", x, x.gang(0, 2), 2);
        PumpSpells y = Checks.launch("w999001 g5");
        y.act(9);
        Checks.due("when SUNK, too", y.force(0, 2), 5);
    }

    private static void forceOutside() {
        Doc.promise(14, "The FORCE of a GANG is v (1 .. 9;");
        PumpSpells x = Checks.launch("w305314 g6");
        Checks.dueRange("force(0, v)", x, v -> x.force(0, v), 1, 9);
        for (int n : new int[] {1, 2, 6}) {
            PumpSpells y = Checks.launch("w305314" + "g6".repeat(n));
            Checks.dueRange("force(i, 3) of " + n, y, i -> y.force(i, 3), 0, n - 1);
        }
        PumpSpells z = new PumpSpells();
        Checks.dueBad("force of no SHIP", z, i -> z.force(i, 3), -1, 0, 1, MIN, MAX);
    }
}
