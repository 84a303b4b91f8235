/** What 'Terms' says of ACTS, CHOKE, LEAK, WATER, SUNK and LAND, and promises 15 to 20. */
public final class HoursEdgesTest {
    private static final int BAD = PumpSpells.BAD, STATE = PumpSpells.STATE;
    private static final int NOTHING = 1;
    private static final int MIN = Integer.MIN_VALUE, MAX = Integer.MAX_VALUE;
    private static final int ALL_BUT_GANGS = 0b1111000000;

    public static void main(String[] args) {
        actsOfAnHour();
        noSuchGang();
        noCargo();
        sailIsSet();
        chokeByHours();
        chokeCleared();
        leakByWater();
        leakByWaterOverTheBrim();
        leakByCargo();
        leakNoLessThanNone();
        leakBySail();
        leakAsAheadOfTheHour();
        waterNoLessThanNone();
        sunkAboveNinetyNine();
        atLandBehindHours();
        sunkInTheLastHour();
        tellNine();
        tellOutside();
        canAtTheBrim();
        canAtLand();
        canWithoutGangs();
        actTellsWater();
        actOutside();
        actNotNow();
        undoFromANumberOn();
        undoForcesStay();
        undoOutside();
        undoToTheBrim();
        keepTellsHours();
        keepAllButRowsAndTexts();
        keepOutside();
        onAsItWasKept();
        onAgain();
        onWithItsHours();
        onOutside();
        Checks.end("HoursEdgesTest");
    }

    private static PumpSpells behind(String text, int... acts) {
        PumpSpells x = Checks.launch(text);
        for (int a : acts) {
            Checks.due("act(" + a + ")", x.act(a) >= 0 ? 1 : 0, 1);
        }
        return x;
    }

    private static void dueTell(String when, PumpSpells x, int what, int want) {
        Checks.dueTold(when + ": tell(" + what + ")", x, x.tell(what), want);
    }

    // ---- Terms: ACTS

    private static void actsOfAnHour() {
        Doc.terms("ACTS of an HOUR: 0 .. 5 that GANG is at the pump; 6 it is CLEARED; 7 one CARGO is thrown over; "
            + "8 the SAIL is set over the LEAK; 9 nothing.");
        int[] water = {54, 51, 54, 57, 51, 53, 60, 60, 60, 60};
        int[] choke = {2, 3, 2, 2, 3, 2, 0, 1, 1, 1};
        int[] spent = {5, 5, 8, 7, 5, 8};
        for (int a = 0; a <= 9; a++) {
            PumpSpells x = behind("w506314 g9 r9 s9 f9 l9 c9", 0);
            dueTell("one HOUR of GANG 0", x, 0, 52);
            Checks.due("act(" + a + ")", x.act(a), water[a]);
            dueTell("ACT " + a, x, 5, choke[a]);
            dueTell("ACT " + a, x, 2, a == 7 ? 2 : 3);
            dueTell("ACT " + a, x, 3, a == 7 ? 1 : 0);
            dueTell("ACT " + a, x, 4, a == 8 ? 1 : 0);
            dueTell("ACT " + a, x, 6, 2);
            for (int i = 0; i < 6; i++) {
                int rested = i == 0 ? 8 : 9;
                Checks.dueTold("STRENGTH of " + i + " by ACT " + a, x, x.gang(i, 2), i == a ? spent[i] : rested);
            }
        }
    }

    private static void noSuchGang() {
        Doc.terms("One can't be, if there is no such GANG");
        for (int n : new int[] {1, 2, 3, 4, 5, 6}) {
            PumpSpells x = Checks.launch("w305314" + "s9".repeat(n));
            Checks.due("can() of " + n, x.can(), ALL_BUT_GANGS | (1 << n) - 1);
            Checks.due("the last GANG", x.act(n - 1), 30);
            for (int a : new int[] {n, 5}) {
                if (a >= n && a <= 5) {
                    Checks.dueRefused("act(" + a + ") of " + n, x, () -> x.act(a), STATE);
                }
            }
        }
    }

    private static void noCargo() {
        Doc.terms("no CARGO");
        for (int cargo : new int[] {0, 1, 2, 9}) {
            PumpSpells x = Checks.launch("w001" + cargo + "40 g6");
            for (int n = 1; n <= cargo; n++) {
                Checks.due("can throw over", x.can() >> 7 & 1, 1);
                Checks.due("CARGO " + n + " of " + cargo, x.act(7) >= 0 ? 1 : 0, 1);
                dueTell("CARGO " + n + " of " + cargo, x, 2, cargo - n);
                dueTell("CARGO " + n + " of " + cargo, x, 3, n);
            }
            Checks.due("can throw over no more", x.can() >> 7 & 1, 0);
            Checks.dueRefused("one more than " + cargo, x, () -> x.act(7), STATE);
        }
    }

    private static void sailIsSet() {
        Doc.terms("or the SAIL is set.");
        PumpSpells x = Checks.launch("w001040 g6");
        Checks.due("can set it", x.can() >> 8 & 1, 1);
        x.act(8);
        Checks.due("can't again", x.can() >> 8 & 1, 0);
        Checks.dueRefused("act(8) again", x, () -> x.act(8), STATE);
        x.act(9);
        x.act(6);
        Checks.dueRefused("act(8) later", x, () -> x.act(8), STATE);
        x.undo(0);
        Checks.due("act(8) when undone", x.act(8), 1);
    }

    // ---- Terms: CHOKE

    private static void chokeByHours() {
        Doc.terms("The CHOKE (0 at first) is 1 more in each HOUR of pumping, 2 more by a RACING one (LAST, too)");
        int[] more = {1, 2, 1, 1, 2, 1};
        for (int a = 0; a < 6; a++) {
            PumpSpells x = Checks.launch("w501940 g9 r9 s9 f9 l9 c9");
            dueTell("at first", x, 5, 0);
            for (int h = 1; h <= 8; h++) {
                x.act(a);
                dueTell("GANG " + a + ", HOUR " + h, x, 5, h * more[a]);
            }
            x.act(9);
            x.act(7);
            x.act(8);
            dueTell("no more by other ACTS", x, 5, 8 * more[a]);
        }
        PumpSpells x = behind("w501940 g1 l1", 0, 0, 1, 1);
        dueTell("without STRENGTH, too", x, 5, 6);
    }

    private static void chokeCleared() {
        Doc.terms("0 behind a CLEARED one.");
        for (int hours : new int[] {0, 1, 4, 5, 6, 10}) {
            PumpSpells x = Checks.launch("w501040 s9");
            for (int h = 0; h < hours; h++) {
                x.act(0);
            }
            x.act(6);
            dueTell("cleared behind " + hours, x, 5, 0);
            Checks.dueTold("pumps again", x, x.gang(0, 3), 6);
            x.act(0);
            dueTell("one HOUR behind it", x, 5, 1);
        }
    }

    // ---- Terms: LEAK

    private static void leakByWater() {
        Doc.terms("In an HOUR it LEAKS: the LEAK, and 1 for each 25 inches of WATER (cut)");
        int[][] leaks = {
            {0, 1}, {1, 1}, {24, 1}, {25, 2}, {26, 2}, {49, 2}, {50, 3}, {51, 3}, {74, 3}, {75, 4}, {76, 4}, {99, 4},
        };
        for (int[] l : leaks) {
            String water = "" + l[0] / 10 + l[0] % 10;
            PumpSpells x = Checks.launch("w" + water + "1009 g6");
            dueTell("WATER " + water, x, 1, l[1]);
            Checks.due("an HOUR from " + water, x.act(9), l[0] + l[1]);
            PumpSpells y = Checks.launch("w" + water + "9009 g6");
            dueTell("WATER " + water + ", LEAK 9", y, 1, l[1] + 8);
        }
    }

    private static void leakByWaterOverTheBrim() {
        Doc.terms("and 1 for each 25 inches of WATER (cut)");
        PumpSpells x = behind("w952009 g6", 9);
        dueTell("WATER", x, 0, 100);
        dueTell("of 100", x, 1, 6);
        PumpSpells y = behind("w942009 g6", 9);
        dueTell("WATER", y, 0, 99);
        dueTell("of 99", y, 1, 5);
        // 124 and 125 come in HOURS of leaks() alone, which go on when it is SUNK
        PumpSpells v = Checks.launch("w898009 g6");
        Checks.fill(v, 0, 9, 100, 9, 112, 9, 124, 9, 136);
        Checks.due("124 and 12", v.leaks(0), 1 << 8);
        PumpSpells z = Checks.launch("w908009 g6");
        Checks.fill(z, 0, 9, 101, 9, 113, 9, 125, 9, 138);
        Checks.due("125 and 13", z.leaks(0), 1 << 8);
    }

    private static void leakByCargo() {
        Doc.terms("less 1 for each two CARGOES thrown over (cut)");
        int[] waters = {5, 10, 14, 18, 21, 24, 26, 29, 31};
        int[] leaks = {5, 4, 4, 3, 3, 2, 3, 2, 2};
        PumpSpells x = Checks.launch("w005940 g6");
        dueTell("none thrown over", x, 1, 5);
        for (int n = 1; n <= 9; n++) {
            Checks.due("CARGO " + n, x.act(7), waters[n - 1]);
            dueTell(n + " thrown over", x, 1, leaks[n - 1]);
        }
    }

    private static void leakNoLessThanNone() {
        Doc.terms(", 0 at least; half of that (cut), if the SAIL is set");
        PumpSpells x = Checks.launch("w001940 g6");
        int[] leaks = {1, 0, 0, 0, 0, 0, 0, 0, 0};
        int[] waters = {1, 2, 2, 2, 2, 2, 2, 2, 2};
        for (int n = 1; n <= 9; n++) {
            Checks.due("CARGO " + n, x.act(7), waters[n - 1]);
            dueTell(n + " thrown over", x, 1, leaks[n - 1]);
        }
        x.act(8);
        dueTell("by the SAIL", x, 1, 0);
        Checks.due("WATER does not grow less by it", x.act(9), 2);
        PumpSpells y = behind("w231940 g6", 7, 7, 7);
        dueTell("26 inches: 1 and 1 less 1", y, 1, 1);
        y.act(7);
        dueTell("27 inches: 1 and 1 less 2", y, 1, 0);
        y.act(7);
        y.act(7);
        dueTell("27 inches: 1 and 1 less 3", y, 1, 0);
        dueTell("27 inches", y, 0, 27);
    }

    private static void leakBySail() {
        Doc.terms("half of that (cut), if the SAIL is set");
        int[] halves = {0, 0, 1, 1, 2, 2, 3, 3, 4, 4};
        for (int leak = 1; leak <= 9; leak++) {
            PumpSpells x = behind("w00" + leak + "040 g6", 8);
            dueTell("LEAK " + leak, x, 1, halves[leak]);
            Checks.due("an HOUR of it", x.act(9), leak + halves[leak]);
        }
        // the sum is halved, not its parts
        PumpSpells x = behind("w703940 g6", 8);
        dueTell("75 inches: 3 and 3", x, 1, 3);
        PumpSpells y = behind("w603940 g6", 8);
        dueTell("65 inches: 3 and 2", y, 1, 2);
        PumpSpells z = behind("w603940 g6", 8, 7, 7);
        dueTell("69 inches: 3 and 2 less 1", z, 1, 2);
    }

    private static void leakAsAheadOfTheHour() {
        Doc.terms("all as ahead of the HOUR.");
        Checks.due("the SAIL's own HOUR", Checks.launch("w005040 g6").act(8), 5);
        PumpSpells x = behind("w005240 g6", 7);
        Checks.due("the second CARGO's own HOUR", x.act(7), 10);
        Checks.due("the HOUR behind it", x.act(9), 14);
        PumpSpells y = Checks.launch("w241040 g6");
        Checks.due("24 inches", y.act(9), 25);
        Checks.due("25 inches", y.act(9), 27);
        Checks.due("25 inches, pumped", Checks.launch("w251040 g6").act(0), 21);
        PumpSpells z = behind("w505040 s9", 0, 0, 0, 0);
        dueTell("a CHOKE of 4", z, 5, 4);
        Checks.due("a CHOKE of 4 ahead of the HOUR", z.act(0), 50 + 5 * (5 + 2 - 6));
        Checks.due("a CHOKE of 5 ahead of the HOUR", z.act(0), 55 + 5 + 2 - 2);
    }

    // ---- Terms: WATER, SUNK, LAND

    private static void waterNoLessThanNone() {
        Doc.terms("Then WATER is what it was, and what it LEAKED, less what was PUMPED, 0 at least.");
        Checks.due("one inch is left", Checks.launch("w061040 g6").act(0), 1);
        Checks.due("none is left", Checks.launch("w051040 g6").act(0), 0);
        PumpSpells x = Checks.launch("w041040 g6");
        Checks.due("one inch less than none", x.act(0), 0);
        Checks.due("it grows from none", x.act(9), 1);
        Checks.due("far less than none", Checks.launch("w001040 r9").act(0), 0);
    }

    private static void sunkAboveNinetyNine() {
        Doc.terms("Above 99 the SHIP is SUNK");
        int[] from = {94, 95, 96, 97};
        for (int water : from) {
            PumpSpells x = Checks.launch("w" + water + "1240 g6");
            int then = water + 4;
            Checks.due("an HOUR from " + water, x.act(9), then);
            dueTell(then + " inches", x, 8, then > 99 ? 1 : 0);
            if (then > 99) {
                for (int a = 0; a <= 9; a++) {
                    int act = a;
                    Checks.dueRefused("act(" + a + ") when SUNK", x, () -> x.act(act), STATE);
                }
                dueTell("HOURS", x, 6, 1);
            } else {
                Checks.due("an HOUR more", x.act(0), then + 4 - 6);
            }
        }
        dueTell("99 inches at first", Checks.launch("w991001 g6"), 8, 0);
    }

    private static void atLandBehindHours() {
        Doc.terms("behind HOURS to LAND, if not SUNK, it is at LAND: no HOUR passes any more then.");
        for (int hours : new int[] {1, 2, 39, 40}) {
            PumpSpells x = Checks.launch("w0010" + hours / 10 + hours % 10 + " s9 s9");
            for (int h = 0; h < hours; h++) {
                dueTell("HOUR " + h, x, 7, hours - h);
                Checks.due("HOUR " + h + " of " + hours, x.act(h % 2) >= 0 ? 1 : 0, 1);
            }
            dueTell("at LAND", x, 7, 0);
            dueTell("at LAND", x, 6, hours);
            dueTell("at LAND", x, 8, 0);
            for (int a : new int[] {0, 6, 8, 9}) {
                Checks.dueRefused("act(" + a + ") at LAND", x, () -> x.act(a), STATE);
            }
            x.undo(hours - 1);
            Checks.due("the last HOUR again", x.act(9) >= 0 ? 1 : 0, 1);
        }
    }

    private static void sunkInTheLastHour() {
        Doc.terms("if not SUNK, it is at LAND");
        PumpSpells x = behind("w951001 g6", 9);
        dueTell("99 inches at LAND", x, 8, 0);
        Checks.fill(x, 0, 9);
        Checks.due("a ROTA at LAND", x.rota(0), 99);
        PumpSpells y = behind("w961001 g6", 9);
        dueTell("100 inches in the last HOUR", y, 8, 1);
        Checks.fill(y, 0, 9);
        Checks.due("a ROTA when SUNK", y.rota(0), PumpSpells.NONE);
    }

    // ---- 15 tell

    private static void tellNine() {
        Doc.promise(15, "0 WATER, 1 what it would LEAK in the HOUR to come, 2 CARGO aboard, 3 CARGO thrown over, "
            + "4 whether the SAIL is set (1, 0), 5 the CHOKE, 6 HOURS that passed, 7 HOURS yet to LAND, "
            + "8 whether it is SUNK (1, 0), told by asked(): 1.");
        int[][] told = {
            {30, 6, 3, 0, 0, 0, 0, 14, 0}, {27, 6, 3, 0, 0, 2, 1, 13, 0}, {33, 6, 2, 1, 0, 2, 2, 12, 0},
            {39, 5, 1, 2, 0, 2, 3, 11, 0}, {44, 2, 1, 2, 1, 2, 4, 10, 0}, {46, 2, 1, 2, 1, 0, 5, 9, 0},
        };
        int[] acts = {1, 7, 7, 8, 6};
        PumpSpells x = Checks.launch(Checks.ALL_KINDS);
        for (int h = 0; h <= 5; h++) {
            for (int what = 0; what <= 8; what++) {
                dueTell("HOUR " + h, x, what, told[h][what]);
            }
            if (h < 5) {
                x.act(acts[h]);
            }
        }
        PumpSpells y = behind("w999101 g6", 9);
        int[] sunk = {111, 13, 1, 0, 0, 0, 1, 0, 1};
        for (int what = 0; what <= 8; what++) {
            dueTell("SUNK", y, what, sunk[what]);
        }
    }

    private static void tellOutside() {
        Doc.promise(15, "BAD; STATE: no GANGS.");
        PumpSpells x = Checks.launch("w305314 g6");
        Checks.dueRange("tell", x, x::tell, 0, 8);
        PumpSpells y = new PumpSpells();
        Checks.dueBad("tell: BAD ahead of STATE", y, y::tell, -1, 9, MIN, MAX);
        Checks.dueRefused("tell(0) without GANGS", y, () -> y.tell(0), STATE);
        Checks.dueRefused("tell(8) without GANGS", y, () -> y.tell(8), STATE);
    }

    // ---- 16 can

    private static void canAtTheBrim() {
        Doc.promise(16, "ACTS that can be (bits 0 .. 9; 0: SUNK, at LAND).");
        Checks.due("all ten", Checks.launch(Checks.ALL_KINDS).can(), 0b1111111111);
        Checks.due("the fewest", behind("w001040 g6", 8).can(), 0b1001000001);
        Checks.due("99 inches", behind("w951040 g6", 9).can(), 0b1101000001);
        Checks.due("100 inches", behind("w961040 g6", 9).can(), 0);
        Checks.due("101 inches", behind("w971040 g6", 9).can(), 0);
    }

    private static void canAtLand() {
        Doc.promise(16, "0: SUNK, at LAND");
        PumpSpells x = Checks.launch("w001002 g6");
        Checks.due("two HOURS off", x.can(), 0b1101000001);
        x.act(9);
        Checks.due("one HOUR off", x.can(), 0b1101000001);
        x.act(9);
        Checks.due("at LAND", x.can(), 0);
        x.undo(1);
        Checks.due("one HOUR off again", x.can(), 0b1101000001);
    }

    private static void canWithoutGangs() {
        Doc.promise(16, "STATE: no GANGS.");
        PumpSpells x = new PumpSpells();
        Checks.dueRefused("can()", x, x::can, STATE);
    }

    // ---- 17 act

    private static void actTellsWater() {
        Doc.promise(17, "An HOUR passes with an ACT: WATER then (above 99: SUNK).");
        PumpSpells x = Checks.launch("w941009 g6");
        Checks.due("98", x.act(9), 98);
        dueTell("98", x, 0, 98);
        dueTell("98", x, 6, 1);
        Checks.due("102", x.act(9), 102);
        dueTell("102", x, 0, 102);
        dueTell("102", x, 8, 1);
        Checks.due("the most there can be", Checks.launch("w999009 g6").act(9), 111);
        Checks.due("none", Checks.launch("w001009 g6").act(0), 0);
    }

    private static void actOutside() {
        Doc.promise(17, "BAD: no 0 .. 9");
        PumpSpells x = Checks.launch("w305314 g6");
        Checks.dueRange("act", x, x::act, 0, 9);
        PumpSpells y = new PumpSpells();
        Checks.dueBad("act: BAD ahead of STATE", y, y::act, -1, 10, MIN, MAX);
        PumpSpells z = behind("w961009 g6", 9);
        Checks.dueBad("act when SUNK: BAD ahead of STATE", z, z::act, -1, 10);
    }

    private static void actNotNow() {
        Doc.promise(17, "STATE: no GANGS, or it can't be.");
        PumpSpells x = new PumpSpells();
        for (int a : new int[] {0, 5, 6, 9}) {
            Checks.dueRefused("act(" + a + ") without GANGS", x, () -> x.act(a), STATE);
        }
        PumpSpells y = behind("w305009 g6 r6", 8);
        for (int a : new int[] {2, 5, 7, 8}) {
            Checks.dueRefused("act(" + a + ") which can't be", y, () -> y.act(a), STATE);
        }
        for (int a : new int[] {0, 1, 6, 9}) {
            Checks.due("act(" + a + ") which can", y.act(a) > 0 ? 1 : 0, 1);
        }
    }

    // ---- 18 undo

    private static void undoFromANumberOn() {
        Doc.promise(18, "HOURS from number n on are undone");
        Doc.promise(18, "how many. BAD.");
        int[] acts = {1, 7, 8, 4, 6, 2};
        for (int n = 0; n <= acts.length; n++) {
            PumpSpells x = Checks.launch(Checks.ALL_KINDS);
            long then = x.digest();
            for (int h = 0; h < acts.length; h++) {
                then = h == n ? x.digest() : then;
                x.act(acts[h]);
            }
            then = n == acts.length ? x.digest() : then;
            Checks.due("undo(" + n + ") of 6", x.undo(n), acts.length - n);
            Checks.due("all as ahead of HOUR " + n, x.digest(), then);
            dueTell("undo(" + n + ")", x, 6, n);
            Checks.due("undo(" + n + ") again", x.undo(n), 0);
        }
        PumpSpells x = Checks.launch("w001040 s9 s9");
        for (int h = 0; h < 40; h++) {
            x.act(h % 2);
        }
        Checks.due("undo(40) of forty", x.undo(40), 0);
        Checks.due("undo(39) of forty", x.undo(39), 1);
        Checks.due("undo(0) of the rest", x.undo(0), 39);
        Checks.due("undo(0) of none", x.undo(0), 0);
    }

    private static void undoForcesStay() {
        Doc.promise(18, "(FORCES stay; STRENGTH no more than these)");
        for (int v : new int[] {1, 6, 7, 8, 9}) {
            PumpSpells x = behind("w305340 g9 s4", 0, 0, 9);
            Checks.due("force(0, " + v + ")", x.force(0, v), 9);
            Checks.due("undo(1)", x.undo(1), 2);
            Checks.dueTold("FORCE stays " + v, x, x.gang(0, 1), v);
            Checks.dueTold("STRENGTH was 7, now at most " + v, x, x.gang(0, 2), Math.min(7, v));
            Checks.due("force(0, 9)", x.force(0, 9), v);
            Checks.due("undo(0)", x.undo(0), 1);
            Checks.dueTold("STRENGTH was 9", x, x.gang(0, 2), 9);
            Checks.dueTold("the other's STRENGTH", x, x.gang(1, 2), 4);
        }
        PumpSpells x = behind("w305340 g9", 0);
        x.force(0, 3);
        Checks.due("none undone", x.undo(1), 0);
        Checks.dueTold("FORCE", x, x.gang(0, 1), 3);
        Checks.dueTold("STRENGTH", x, x.gang(0, 2), 3);
    }

    private static void undoOutside() {
        Doc.promise(18, "how many. BAD.");
        for (int passed : new int[] {1, 2, 3}) {
            PumpSpells x = Checks.launch("w305314 g6");
            for (int h = 0; h < passed; h++) {
                x.act(9);
            }
            Checks.dueBad("undo of " + passed, x, x::undo, -1, passed + 1, MIN, MAX);
            Checks.due("undo(" + passed + ")", x.undo(passed), 0);
        }
        PumpSpells x = Checks.launch("w305314 g6");
        Checks.dueBad("undo of none", x, x::undo, -1, 1);
        Checks.due("undo(0) of none", x.undo(0), 0);
        PumpSpells y = new PumpSpells();
        Checks.dueBad("undo without GANGS", y, y::undo, -1, 1, MIN, MAX);
        Checks.due("undo(0) without GANGS", y.undo(0), 0);
    }

    private static void undoToTheBrim() {
        Doc.promise(18, "HOURS from number n on are undone");
        PumpSpells x = behind("w921009 g6", 9, 9);
        dueTell("SUNK", x, 8, 1);
        Checks.due("the HOUR that sank it", x.undo(1), 1);
        dueTell("96 inches", x, 0, 96);
        dueTell("not SUNK", x, 8, 0);
        Checks.due("it goes on", x.act(0), 94);
    }

    // ---- 19 keep

    private static void keepTellsHours() {
        Doc.promise(19, "is kept in a place (0 .. 2): how many HOURS passed.");
        PumpSpells x = Checks.launch("w001040 s9 s9");
        Checks.due("keep at HOUR 0", x.keep(0), 0);
        x.act(0);
        Checks.due("keep at HOUR 1", x.keep(1), 1);
        for (int h = 1; h < 40; h++) {
            x.act(h % 2);
        }
        Checks.due("keep at HOUR 40", x.keep(2), 40);
        Checks.due("count(8)", x.count(8), 3);
        Checks.due("keep over another", x.keep(0), 40);
        Checks.due("count(8)", x.count(8), 3);
        Checks.due("on(0)", x.on(0), 40);
        Checks.due("its first HOURS", x.undo(1), 39);
        Checks.due("keep when some are undone", x.keep(2), 1);
        Checks.due("keep when SUNK", behind("w961009 g6", 9).keep(0), 1);
    }

    private static void keepAllButRowsAndTexts() {
        Doc.promise(19, "The SHIP (all but ROWS, TEXTS)");
        PumpSpells x = behind(Checks.ALL_KINDS, 1, 8, 7, 4);
        Checks.fill(x, 0, 1, 2);
        Checks.write(x, 0, "ab");
        x.force(5, 1);
        x.keep(1);
        long digest = x.digest();
        Checks.fill(x, 0, 3);
        Checks.write(x, 0, "c");
        x.row(2, 0);
        x.act(6);
        x.act(7);
        x.force(5, 9);
        x.force(0, 9);
        x.on(1);
        Checks.dueRow("ROW 0 stays as laid", x, 0, 3);
        Checks.due("TEXT 0 stays as put", x.put(0, 0, 'c'), 1000 + 'c');
        Checks.due("ROW 2 stays there", x.tear(2), 1);
        Checks.fill(x, 0, 1, 2);
        Checks.write(x, 0, "ab");
        Checks.due("all else as it was", x.digest(), digest);
    }

    private static void keepOutside() {
        Doc.promise(19, "BAD; STATE: no GANGS.");
        PumpSpells x = Checks.launch("w305314 g6");
        Checks.dueRange("keep", x, x::keep, 0, 2);
        PumpSpells y = new PumpSpells();
        Checks.dueBad("keep: BAD ahead of STATE", y, y::keep, -1, 3, MIN, MAX);
        for (int k = 0; k <= 2; k++) {
            int place = k;
            Checks.dueRefused("keep(" + k + ") without GANGS", y, () -> y.keep(place), STATE);
        }
    }

    // ---- 20 on

    private static void onAsItWasKept() {
        Doc.promise(20, "The SHIP is as it was kept (FORCES, too): how many HOURS passed.");
        PumpSpells x = behind("w305340 g9 r9", 0, 1);
        x.force(0, 7);
        x.keep(2);
        x.force(0, 1);
        x.force(1, 1);
        x.act(9);
        Checks.due("on(2)", x.on(2), 2);
        Checks.dueTold("FORCE of 0", x, x.gang(0, 1), 7);
        Checks.dueTold("STRENGTH of 0", x, x.gang(0, 2), 7);
        Checks.dueTold("FORCE of 1", x, x.gang(1, 1), 9);
        Checks.dueTold("STRENGTH of 1", x, x.gang(1, 2), 5);
        Checks.due("its HOURS can be undone", x.undo(0), 2);
        Checks.dueTold("STRENGTH of 0 at first, by its FORCE", x, x.gang(0, 2), 7);
        Checks.dueTold("STRENGTH of 1 at first", x, x.gang(1, 2), 9);
        Checks.due("on(2) from HOUR 0", x.on(2), 2);
        dueTell("WATER", x, 0, 27);
        PumpSpells y = behind("w921009 g6", 9);
        y.keep(0);
        y.act(9);
        Checks.due("on(0) when SUNK", y.on(0), 1);
        dueTell("not SUNK", y, 8, 0);
    }

    private static void onAgain() {
        Doc.promise(20, "The SHIP is as it was kept");
        PumpSpells x = behind("w305340 g9 r9", 0);
        x.keep(0);
        x.act(1);
        x.keep(1);
        long later = x.digest();
        for (int round = 0; round < 3; round++) {
            Checks.due("on(0)", x.on(0), 1);
            x.act(8);
            x.undo(0);
            x.act(7);
            Checks.due("on(1)", x.on(1), 2);
            Checks.due("as it was kept", x.digest(), later);
            x.undo(0);
            x.act(9);
            x.act(9);
            x.act(9);
        }
        Checks.due("kept ones stay", x.count(8), 2);
    }

    private static void onWithItsHours() {
        Doc.promise(20, "The SHIP is as it was kept");
        PumpSpells x = behind("w305340 g9 r9", 1, 8, 0);
        x.keep(0);
        x.undo(0);
        for (int a : new int[] {9, 7, 9, 7}) {
            x.act(a);
        }
        x.keep(1);
        Checks.due("on(0)", x.on(0), 3);
        Checks.due("its HOUR 2 is undone", x.undo(2), 1);
        dueTell("WATER ahead of HOUR 2", x, 0, 33);
        dueTell("the SAIL was set", x, 4, 1);
        Checks.due("its HOUR 1 is undone", x.undo(1), 1);
        dueTell("WATER ahead of HOUR 1", x, 0, 27);
        dueTell("CARGO ahead of HOUR 1", x, 2, 3);
        dueTell("CHOKE ahead of HOUR 1", x, 5, 2);
        Checks.dueTold("STRENGTH ahead of HOUR 1", x, x.gang(1, 2), 5);
        Checks.due("on(1)", x.on(1), 4);
        Checks.due("HOURS of the other one", x.undo(2), 2);
        dueTell("WATER ahead of its HOUR 2", x, 0, 42);
        dueTell("CARGO ahead of its HOUR 2", x, 2, 2);
        dueTell("CHOKE ahead of its HOUR 2", x, 5, 0);
    }

    private static void onOutside() {
        Doc.promise(20, "BAD; NOTHING.");
        PumpSpells x = Checks.launch("w305314 g6");
        for (int k = 0; k <= 2; k++) {
            int place = k;
            Checks.dueFinding("on(" + k + ") of none", x, () -> x.on(place), NOTHING);
            x.keep(k);
        }
        Checks.dueRange("on", x, x::on, 0, 2);
        PumpSpells y = new PumpSpells();
        Checks.dueBad("on: BAD ahead of NOTHING", y, y::on, -1, 3, MIN, MAX);
        Checks.dueFinding("on(0) without GANGS", y, () -> y.on(0), NOTHING);
        PumpSpells z = Checks.launch("w305314 g6");
        z.keep(1);
        Checks.dueFinding("the place below it", z, () -> z.on(0), NOTHING);
        Checks.dueFinding("the place above it", z, () -> z.on(2), NOTHING);
    }
}
