import java.util.Arrays;

/** What 'Terms' says of PLANS, and promises 21 to 24. */
public final class PlansEdgesTest {
    private static final int BAD = PumpSpells.BAD, NONE = PumpSpells.NONE, STATE = PumpSpells.STATE;
    private static final int NOTHING = 1, UNLIKE = 3;
    private static final int MIN = Integer.MIN_VALUE, MAX = Integer.MAX_VALUE;

    public static void main(String[] args) {
        planOfActs();
        plansGoByTheirFirstActs();
        aside();
        runFirstThatCantBe();
        runFirstThatSinks();
        runNone();
        runWaterAheadOfIt();
        runEnded();
        runUnlike();
        runOrder();
        bestOfNone();
        bestIsNotSunk();
        bestIsTheFirst();
        bestComesAnew();
        bestNone();
        bestOutside();
        afloatCounts();
        afloatAtTheBrim();
        afloatTold();
        afloatOutside();
        firstsAreBits();
        firstsAreThoseOfAfloat();
        firstsOutside();
        Checks.end("PlansEdgesTest");
    }

    private static void dueRun(PumpSpells x, int first, int water, int... acts) {
        Checks.fill(x, 0, acts);
        long digest = x.digest();
        Checks.due("run of " + Arrays.toString(acts), x.run(0), first);
        Checks.due("run of " + Arrays.toString(acts) + ": asked()", x.asked(), water);
        Checks.due("run is aside", x.digest(), digest);
    }

    private static PumpSpells behind(String text, int... acts) {
        PumpSpells x = Checks.launch(text);
        for (int a : acts) {
            x.act(a);
        }
        return x;
    }

    // ---- Terms

    private static void planOfActs() {
        Doc.terms("A PLAN is a ROW of ACTS (0 .. 9)");
        PumpSpells x = Checks.launch(Checks.ALL_KINDS);
        for (int a : new int[] {0, 5, 6, 9}) {
            Checks.fill(x, 1, a);
            Checks.due("run of " + a, x.run(1), 1);
        }
        for (int a : new int[] {-1, 10, MIN, MAX}) {
            Checks.fill(x, 1, a);
            Checks.dueFinding("run of " + a, x, () -> x.run(1), UNLIKE);
        }
    }

    private static void plansGoByTheirFirstActs() {
        Doc.terms("PLANS go by their first ACTS, then second ones, ..");
        // two like GANGS: of 0 1 and 1 0 the one with the lesser first ACT comes
        PumpSpells x = Checks.launch("w501040 g2 g2");
        Checks.due("best(2, 0)", x.best(2, 0), 43);
        Checks.dueRow("best of two", x, 0, 0, 1);
        // all are as good: the first of all
        PumpSpells y = Checks.launch("w001040 s9 s9");
        Checks.due("best(4, 0)", y.best(4, 0), 0);
        Checks.dueRow("best of four", y, 0, 0, 0, 0, 0);
        Checks.due("watch(3, 1)", Checks.launch("w001002 s9 s9").watch(3, 1), 0);
    }

    private static void aside() {
        Doc.terms("---- 3 plans (aside).");
        PumpSpells x = behind(Checks.ALL_KINDS, 1, 7);
        x.keep(0);
        Checks.fill(x, 0, 1, 8, 7, 6, 4);
        x.best(0, 1);
        long digest = x.digest();
        x.run(0);
        x.best(4, 1);
        x.row(1, 0);
        x.afloat(4);
        x.firsts(4);
        Checks.due("the SHIP is as it was", x.digest(), digest);
        Checks.due("so are its HOURS", x.undo(1), 1);
        Checks.dueTold("WATER of HOUR 1", x, x.tell(0), 27);
        Checks.dueTold("CARGO of HOUR 1", x, x.tell(2), 3);
    }

    // ---- 21 run

    private static void runFirstThatCantBe() {
        Doc.promise(21, "A PLAN in a ROW judged: the first ACT that can't be");
        PumpSpells x = Checks.launch("w305240 g6 r9");
        dueRun(x, 0, 30, 2);
        dueRun(x, 1, 30, 0, 2, 3);
        dueRun(x, 2, 27, 0, 1, 5, 5);
        dueRun(x, 1, 36, 8, 8);
        dueRun(x, 2, 42, 7, 7, 7);
        PumpSpells y = Checks.launch("w305003 g6");
        dueRun(y, 0, 30, 7);
        dueRun(y, 3, 48, 9, 9, 9, 9);
        dueRun(y, 3, 48, 9, 9, 9);
    }

    private static void runFirstThatSinks() {
        Doc.promise(21, "or behind which it is SUNK");
        dueRun(Checks.launch("w951040 g6"), 1, 103, 9, 9);
        dueRun(Checks.launch("w951040 g6"), 1, 99, 9);
        dueRun(Checks.launch("w961040 g6"), 0, 100, 9);
        dueRun(Checks.launch("w961040 g6"), 0, 100, 9, 0, 9);
        dueRun(Checks.launch("w971040 g6"), 0, 101, 6, 9);
        dueRun(Checks.launch("w951001 g6"), 1, 99, 9);
        dueRun(Checks.launch("w961001 g6"), 0, 100, 9);
    }

    private static void runNone() {
        Doc.promise(21, "(as many as there are: none)");
        PumpSpells x = Checks.launch("w001040 g6");
        dueRun(x, 0, 0);
        dueRun(x, 1, 1, 9);
        dueRun(x, 2, 2, 9, 9);
        int[] acts = new int[40];
        Arrays.fill(acts, 9);
        dueRun(x, 40, 57, acts);
        int[] fewer = Arrays.copyOf(acts, 39);
        dueRun(x, 39, 54, fewer);
        acts[39] = 7;
        dueRun(x, 39, 54, acts);
    }

    private static void runWaterAheadOfIt() {
        Doc.promise(21, "WATER then (ahead of one that can't be) by asked().");
        PumpSpells x = Checks.launch("w305140 g6");
        dueRun(x, 0, 30, 1, 9);
        dueRun(x, 1, 36, 7, 7, 9);
        dueRun(x, 2, 42, 9, 9);
        dueRun(Checks.launch("w901040 g6"), 2, 102, 9, 9, 9);
    }

    private static void runEnded() {
        Doc.promise(21, "the first ACT that can't be");
        PumpSpells x = behind("w961040 g6", 9);
        dueRun(x, 0, 100, 9);
        dueRun(x, 0, 100);
        PumpSpells y = behind("w001001 g6", 9);
        dueRun(y, 0, 1, 9);
        dueRun(y, 0, 1);
    }

    private static void runUnlike() {
        Doc.promise(21, "UNLIKE: no ACT.");
        for (int a : new int[] {-1, 10, MIN, MAX}) {
            PumpSpells x = Checks.launch("w961040 g6");
            Checks.fill(x, 0, a);
            Checks.dueFinding("run of " + a, x, () -> x.run(0), UNLIKE);
            Checks.fill(x, 0, 0, 0, a);
            Checks.dueFinding("run of " + a + " at last", x, () -> x.run(0), UNLIKE);
            Checks.fill(x, 0, 5, a);
            Checks.dueFinding("run of " + a + " behind one that can't be", x, () -> x.run(0), UNLIKE);
            Checks.fill(x, 0, 9, a);
            Checks.dueFinding("run of " + a + " behind one that sinks it", x, () -> x.run(0), UNLIKE);
        }
    }

    private static void runOrder() {
        Doc.promise(21, "BAD; STATE: no GANGS; NOTHING; UNLIKE: no ACT. (In this order.)");
        PumpSpells x = new PumpSpells();
        Checks.dueBad("run: BAD ahead of STATE", x, x::run, -1, 6, MIN, MAX);
        Checks.dueRefused("STATE ahead of NOTHING", x, () -> x.run(0), STATE);
        Checks.fill(x, 0, 10);
        Checks.dueRefused("STATE ahead of UNLIKE", x, () -> x.run(0), STATE);
        Checks.fill(x, 0, 9);
        Checks.dueRefused("STATE", x, () -> x.run(0), STATE);
        Checks.relaunch(x, "w305140 g6");
        Checks.dueFinding("NOTHING", x, () -> x.run(1), NOTHING);
        Checks.due("run(0)", x.run(0), 1);
        Checks.dueRange("run", x, x::run, 0, 5);
    }

    // ---- 22 best

    private static void bestOfNone() {
        Doc.promise(22, "The PLAN of n (0 .. 4) ACTS that can be");
        PumpSpells x = Checks.launch("w305140 g6 r9");
        x.row(2, 3);
        Checks.due("best(0, 2)", x.best(0, 2), 30);
        Checks.dueRow("no ACTS", x, 2);
        Checks.due("best(1, 2)", x.best(1, 2), 27);
        Checks.dueRow("one ACT", x, 2, 1);
        PumpSpells y = Checks.launch("w501940 s9");
        Checks.due("best(4, 2)", y.best(4, 2), 35);
        Checks.dueRow("four ACTS", y, 2, 0, 0, 0, 0);
        PumpSpells z = Checks.launch("w501002 g6");
        Checks.due("best(2) of two HOURS", z.best(2, 0), 43);
        Checks.due("best(3) of two HOURS", z.best(3, 0), NONE);
        PumpSpells v = behind("w501009 g6", 8);
        Checks.due("best(1) without CARGO, the SAIL set", v.best(1, 5), 48);
    }

    private static void bestIsNotSunk() {
        Doc.promise(22, "by which it is not SUNK, and WATER is least");
        // 94 and 9 + 3 leak: the RACING one alone keeps it at 97, the second HOUR sinks it
        PumpSpells x = Checks.launch("w949040 r9 s9");
        Checks.due("best(1)", x.best(1, 0), 97);
        Checks.dueRow("best(1)", x, 0, 0);
        PumpSpells y = Checks.launch("w969040 r9");
        Checks.due("99 inches", y.best(1, 0), 99);
        PumpSpells z = Checks.launch("w979040 r9");
        Checks.due("100 inches", z.best(1, 0), NONE);
        // SUNK on its way, though the HOUR behind would pump more
        Checks.due("by way of 100", Checks.launch("w979040 r9").best(2, 0), NONE);
    }

    private static void bestIsTheFirst() {
        Doc.promise(22, "(the first)");
        PumpSpells x = Checks.launch("w301040 g6 s6 g6");
        Checks.due("best(1)", x.best(1, 0), 26);
        Checks.dueRow("the first of three", x, 0, 0);
        PumpSpells y = Checks.launch("w001040 g6");
        Checks.due("no less than none", y.best(2, 0), 0);
        Checks.dueRow("the first by which none is left", y, 0, 0, 0);
        PumpSpells z = Checks.launch("w301040 f6 s6 r1");
        Checks.due("best(1)", z.best(1, 0), 26);
        Checks.dueRow("a later one that is better", z, 0, 1);
    }

    private static void bestComesAnew() {
        Doc.promise(22, "it comes to a ROW (anew): WATER.");
        PumpSpells x = Checks.launch("w301040 s9");
        Checks.due("to a missing one", x.best(2, 5), 22);
        Checks.dueRow("to a missing one", x, 5, 0, 0);
        int[] many = new int[40];
        Arrays.fill(many, 7);
        Checks.fill(x, 0, many);
        Checks.due("to a longer one", x.best(1, 0), 26);
        Checks.dueRow("to a longer one", x, 0, 0);
        x.row(1, 0);
        Checks.due("to an empty one", x.best(3, 1), 17);
        Checks.dueRow("to an empty one", x, 1, 0, 0, 0);
        Checks.due("count(6)", x.count(6), 3);
    }

    private static void bestNone() {
        Doc.promise(22, "NONE: there is none.");
        PumpSpells x = Checks.launch("w979040 r9");
        Checks.fill(x, 0, 8, 9);
        long digest = x.digest();
        for (int n = 1; n <= 4; n++) {
            Checks.due("best(" + n + ", 0)", x.best(n, 0), NONE);
            Checks.due("best(" + n + ", 1)", x.best(n, 1), NONE);
        }
        Checks.due("no ROW comes", x.digest(), digest);
        Checks.due("no FINDING", Checks.allFindings(x), 0);
        PumpSpells y = behind("w961040 g6", 9);
        Checks.due("of no ACTS when SUNK", y.best(0, 0), NONE);
        PumpSpells z = behind("w001001 g6", 9);
        Checks.due("of no ACTS at LAND", z.best(0, 0), 1);
        Checks.due("of one ACT at LAND", z.best(1, 0), NONE);
    }

    private static void bestOutside() {
        Doc.promise(22, "BAD; STATE.");
        PumpSpells x = Checks.launch("w305140 g6");
        Checks.dueRange("best(n, 0)", x, n -> x.best(n, 0), 0, 4);
        PumpSpells y = new PumpSpells();
        Checks.dueBad("BAD ahead of STATE", y, n -> y.best(n, 0), -1, 5, MIN, MAX);
        Checks.dueBad("BAD ahead of STATE, by its ROW", y, r -> y.best(0, r), -1, 6);
        Checks.dueRefused("best(0, 0) without GANGS", y, () -> y.best(0, 0), STATE);
        Checks.dueRefused("best(4, 5) without GANGS", y, () -> y.best(4, 5), STATE);
    }

    // ---- 23 afloat

    private static void dueAfloat(PumpSpells x, int n, long many) {
        Checks.dueChance("afloat(" + n + ")", x, x.afloat(n), many, 1);
    }

    private static void afloatCounts() {
        Doc.promise(23, "How many PLANS of n (0 .. 4) ACTS can be and do not sink it");
        PumpSpells x = Checks.launch("w001040 g6 r9 s4 f5 l7 c3");
        dueAfloat(x, 0, 1);
        dueAfloat(x, 1, 9);
        // 9 at first; behind the SAIL 8
        dueAfloat(x, 2, 8 * 9 + 8);
        PumpSpells y = behind("w001040 g6", 8);
        dueAfloat(y, 0, 1);
        dueAfloat(y, 1, 3);
        dueAfloat(y, 2, 9);
        dueAfloat(y, 3, 27);
        dueAfloat(y, 4, 81);
        PumpSpells z = Checks.launch("w001104 g6");
        // each of the two that can be once: of four places none, one or two; three ACTS in the others
        dueAfloat(z, 4, 81 + 2 * 4 * 27 + 12 * 9);
        dueAfloat(Checks.launch("w001103 g6"), 4, 0);
    }

    private static void afloatAtTheBrim() {
        Doc.promise(23, "can be and do not sink it");
        dueAfloat(Checks.launch("w951040 g6"), 1, 4);
        dueAfloat(Checks.launch("w961040 g6"), 1, 1);
        dueAfloat(Checks.launch("w979040 r9"), 1, 0);
        dueAfloat(behind("w961040 g6", 9), 0, 0);
        dueAfloat(behind("w951040 g6", 9), 0, 1);
        dueAfloat(behind("w001001 g6", 9), 0, 1);
        dueAfloat(behind("w001001 g6", 9), 1, 0);
    }

    private static void afloatTold() {
        Doc.promise(23, "told by upper() (lower() is 1): 1.");
        PumpSpells x = Checks.launch("w973009 g6");
        Checks.dueChance("odds ahead of it", x, x.odds(0, 1, 3), 3, 4);
        int asked = x.asked();
        Checks.dueChance("afloat(1)", x, x.afloat(1), 1, 1);
        Checks.due("asked() stays", x.asked(), asked);
        x.odds(0, 1, 3);
        Checks.dueChance("afloat(0)", x, x.afloat(0), 1, 1);
        x.act(9);
        Checks.dueChance("none: 0 by 1", x, x.afloat(2), 0, 1);
    }

    private static void afloatOutside() {
        Doc.promise(23, "BAD; STATE.");
        PumpSpells x = Checks.launch("w305140 g6");
        Checks.dueRange("afloat", x, x::afloat, 0, 4);
        PumpSpells y = new PumpSpells();
        Checks.dueBad("BAD ahead of STATE", y, y::afloat, -1, 5, MIN, MAX);
        Checks.dueRefused("afloat(0) without GANGS", y, () -> y.afloat(0), STATE);
        Checks.dueRefused("afloat(4) without GANGS", y, () -> y.afloat(4), STATE);
    }

    // ---- 24 firsts

    private static void firstsAreBits() {
        Doc.promise(24, "The first ACTS (bits) of PLANS that afloat() counts.");
        Checks.due("all ten", Checks.launch(Checks.ALL_KINDS).firsts(1), 1023);
        Checks.due("all ten by four", Checks.launch(Checks.ALL_KINDS).firsts(4), 1023);
        Checks.due("the fewest", behind("w001040 g6", 8).firsts(1), 0b1001000001);
        Checks.due("ACT 0 alone", Checks.launch("w961040 g6").firsts(1), 1);
        Checks.due("ACT 9 and others, no GANG", Checks.launch("w951040 g6").firsts(1), 0b1101000001);
    }

    private static void firstsAreThoseOfAfloat() {
        Doc.promise(24, "of PLANS that afloat() counts");
        // 91 and 4 and 4 is 99, whatever is done
        PumpSpells x = Checks.launch("w911040 f1");
        Checks.due("firsts(2)", x.firsts(2), 0b1101000001);
        // it leaks 4, the FEIGNED one pumps 1: 97 and 100; the SAIL ahead of it: 98 and 99
        PumpSpells y = Checks.launch("w941003 f1");
        Checks.due("firsts(1)", y.firsts(1), 0b1101000001);
        Checks.due("firsts(2)", y.firsts(2), 0b0100000000);
        Checks.due("firsts(3)", y.firsts(3), 0);
        Checks.due("firsts(4) of three HOURS", y.firsts(4), 0);
        Checks.due("SUNK", behind("w961040 g6", 9).firsts(1), 0);
        Checks.due("at LAND", behind("w001001 g6", 9).firsts(1), 0);
    }

    private static void firstsOutside() {
        Doc.promise(24, "BAD: n 1 .. 4; STATE.");
        PumpSpells x = Checks.launch("w305140 g6");
        Checks.dueRange("firsts", x, x::firsts, 1, 4);
        PumpSpells y = new PumpSpells();
        Checks.dueBad("BAD ahead of STATE", y, y::firsts, 0, 5, MIN, MAX);
        Checks.dueRefused("firsts(1) without GANGS", y, () -> y.firsts(1), STATE);
        Checks.dueRefused("firsts(4) without GANGS", y, () -> y.firsts(4), STATE);
    }
}
