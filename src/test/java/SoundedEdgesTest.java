import java.util.Arrays;

/** Promises 31 to 34, with each bound at its number, one below it, one above it. */
public final class SoundedEdgesTest {
    private static final int BAD = PumpSpells.BAD, STATE = PumpSpells.STATE;
    private static final int NOTHING = 1, UNLIKE = 3, SIZE = 5;
    private static final int MIN = Integer.MIN_VALUE, MAX = Integer.MAX_VALUE;

    public static void main(String[] args) {
        gainsSurely();
        gainsByTheFirstAndTheLast();
        gainsOfFarNumbers();
        gainsFewerThanTwo();
        gainsRefused();
        fromNowOn();
        feignsIfItAlone();
        feignsOrIsOne();
        feignsAsTheyAre();
        feignsNotByPairs();
        actsThatCantBe();
        aboveNinetyNine();
        tillLand();
        feignsOrder();
        kindsByInches();
        kindsByStrength();
        kindsByChoke();
        kindsRefused();
        leaksByInches();
        leaksAllAsTheyAre();
        leaksRefused();
        Checks.end("SoundedEdgesTest");
    }

    private static PumpSpells behind(String text, int... acts) {
        PumpSpells x = Checks.launch(text);
        for (int a : acts) {
            x.act(a);
        }
        return x;
    }

    // ---- 31 gains

    private static void dueGains(int answer, int... soundings) {
        PumpSpells x = new PumpSpells();
        Checks.fill(x, 0, soundings);
        Checks.due("gains of " + Arrays.toString(soundings), x.gains(0), answer);
    }

    private static void gainsSurely() {
        Doc.promise(31, "Soundings in a ROW (WATER at the end of each HOUR, by one inch too much or too little at most): "
            + "1: it gains (surely more at the last than at the first), 2: it loses, 0: it may be either.");
        int[] answers = {2, 2, 0, 0, 0, 0, 0, 1, 1};
        for (int more = -4; more <= 4; more++) {
            dueGains(answers[more + 4], 10, 10 + more);
            dueGains(answers[more + 4], 99, 99 + more);
            dueGains(answers[more + 4], -10, -10 + more);
            dueGains(answers[more + 4], 10, 10, 10 + more);
        }
    }

    private static void gainsByTheFirstAndTheLast() {
        Doc.promise(31, "surely more at the last than at the first");
        dueGains(0, 10, 90, 0, 10);
        dueGains(1, 10, 0, 0, 13);
        dueGains(2, 10, 90, 90, 7);
        dueGains(0, 10, 90, 12);
        int[] forty = new int[40];
        forty[39] = 3;
        dueGains(1, forty);
        forty[39] = 2;
        dueGains(0, forty);
        forty[38] = 50;
        dueGains(0, forty);
        forty[0] = 6;
        dueGains(2, forty);
    }

    private static void gainsOfFarNumbers() {
        Doc.promise(31, "1: it gains (surely more at the last than at the first), 2: it loses");
        dueGains(1, MIN, MAX);
        dueGains(2, MAX, MIN);
        dueGains(0, MAX, MAX);
        dueGains(0, MIN, MIN);
        dueGains(0, MAX, MAX - 2);
        dueGains(2, MAX, MAX - 3);
        dueGains(0, MIN, MIN + 2);
        dueGains(1, MIN, MIN + 3);
        dueGains(1, -2, MAX);
        dueGains(2, MAX, -2);
    }

    private static void gainsFewerThanTwo() {
        Doc.promise(31, "SIZE: fewer than two.");
        PumpSpells x = new PumpSpells();
        x.row(0, 0);
        Checks.dueFinding("gains of none", x, () -> x.gains(0), SIZE);
        x.row(0, 1);
        Checks.dueFinding("gains of one", x, () -> x.gains(0), SIZE);
        x.row(0, 2);
        Checks.due("gains of two", x.gains(0), 0);
        x.row(0, 3);
        Checks.due("gains of three", x.gains(0), 0);
    }

    private static void gainsRefused() {
        Doc.promise(31, "BAD; NOTHING; SIZE");
        PumpSpells x = new PumpSpells();
        Checks.dueBad("BAD ahead of NOTHING", x, x::gains, -1, 6, MIN, MAX);
        Checks.dueFinding("NOTHING, no STATE without GANGS", x, () -> x.gains(0), NOTHING);
        Checks.dueFinding("NOTHING", x, () -> x.gains(5), NOTHING);
    }

    // ---- 32 feigns

    private static void dueFeigns(PumpSpells x, int set, int asked, int... pairs) {
        Checks.fill(x, 0, pairs);
        long digest = x.digest();
        Checks.due("feigns of " + Arrays.toString(pairs), x.feigns(0), set);
        Checks.due("feigns of " + Arrays.toString(pairs) + ": asked()", x.asked(), asked);
        Checks.due("feigns is aside", x.digest(), digest);
    }

    private static void fromNowOn() {
        Doc.promise(32, "ACTS and WATER behind them in a ROW of pairs, from now on");
        PumpSpells x = Checks.launch("w305214 g6 s9");
        dueFeigns(x, 0b11, 1, 9, 36);
        dueFeigns(x, 0b00, 0, 9, 35);
        dueFeigns(x, 0b00, 0, 9, 37);
        dueFeigns(x, 0b11, 1, 9, 36, 9, 42);
        dueFeigns(x, 0b00, 0, 9, 36, 9, 43);
        dueFeigns(x, 0b00, 0, 9, 35, 9, 42);
        x.act(9);
        dueFeigns(x, 0b11, 1, 9, 42);
        dueFeigns(x, 0b00, 0, 9, 36);
        PumpSpells y = behind("w305214 s9", 0, 0, 0, 0);
        // the fifth HOUR is not choked, the sixth is
        dueFeigns(y, 0b0, 1, 0, 30, 0, 34);
        // FEIGNED ones of 5 pump 3, and choked 1
        dueFeigns(y, 0b1, 0, 0, 33, 0, 38);
    }

    private static void feignsIfItAlone() {
        Doc.promise(32, "GANGS (bits), any one of which, if it alone were a FEIGNED one (or is one), makes it so");
        PumpSpells x = Checks.launch("w305240 g6 g6 s6 r6 l6 c6");
        for (int i = 0; i < 6; i++) {
            dueFeigns(x, 1 << i, 0, i, 33);
            dueFeigns(x, 0, 0, i, 32);
            dueFeigns(x, 0, 0, i, 34);
        }
        // both would have to be FEIGNED ones
        dueFeigns(x, 0b000000, 0, 0, 33, 1, 36);
        dueFeigns(x, 0b000001, 0, 0, 33, 1, 33);
        dueFeigns(x, 0b000010, 0, 0, 30, 1, 33);
        dueFeigns(x, 0b111100, 1, 0, 30, 1, 30);
        // a GANG of one STRENGTH pumps 3 of its 6, a FEIGNED one 1 of its 3
        PumpSpells y = Checks.launch("w305240 g1 s9");
        dueFeigns(y, 0b10, 1, 0, 33);
        dueFeigns(y, 0b01, 0, 0, 35);
    }

    private static void feignsOrIsOne() {
        Doc.promise(32, "(or is one)");
        PumpSpells x = Checks.launch("w305240 f6 g6");
        dueFeigns(x, 0b11, 1, 0, 33);
        dueFeigns(x, 0b01, 1, 1, 30);
        dueFeigns(x, 0b10, 0, 1, 33);
        dueFeigns(x, 0b00, 0, 0, 30);
        // the one that is FEIGNED stays so
        dueFeigns(x, 0b10, 0, 0, 33, 1, 36);
        dueFeigns(Checks.launch("w305240 f6 f6"), 0b11, 1, 0, 33, 1, 36);
    }

    private static void feignsAsTheyAre() {
        Doc.promise(32, "whether it is so as they are by asked() (1, 0).");
        PumpSpells x = Checks.launch("w305240 g6 s6");
        dueFeigns(x, 0b10, 1, 0, 30);
        dueFeigns(x, 0b00, 0, 0, 31);
        dueFeigns(x, 0b01, 0, 0, 33);
        dueFeigns(x, 0b11, 1);
        x.tear(0);
        Checks.dueFinding("a refused one tells nothing", x, () -> x.feigns(0), NOTHING);
    }

    /** Each of the three calls that take pairs. */
    private static void duePairs(String what, PumpSpells x, int finding) {
        Checks.dueFinding("feigns, " + what, x, () -> x.feigns(0), finding);
        Checks.dueFinding("kinds, " + what, x, () -> x.kinds(0, 0), finding);
        Checks.dueFinding("leaks, " + what, x, () -> x.leaks(0), finding);
    }

    private static void feignsNotByPairs() {
        Doc.promise(32, "SIZE: not by pairs");
        for (int n : new int[] {0, 1, 2, 3, 38, 39, 40}) {
            PumpSpells x = Checks.launch("w005240 g6 g6");
            int[] nines = new int[n];
            Arrays.fill(nines, 9);
            Checks.fill(x, 0, nines);
            if (n % 2 == 0) {
                Checks.due("feigns of " + n, x.feigns(0), n == 0 ? 0b11 : 0);
                Checks.due("kinds of " + n, x.kinds(0, 0), n == 0 ? 0b111111 : 0);
                Checks.due("leaks of " + n, x.leaks(0), n == 0 ? 0b1111111110 : n == 2 ? 1 << 9 : 0);
            } else {
                duePairs("" + n, x, SIZE);
            }
        }
    }

    private static void actsThatCantBe() {
        Doc.promise(32, "UNLIKE: no ACT, or one that can't be");
        PumpSpells x = null;
        int[][] unlike = {
            {-1, 30}, {10, 30}, {MIN, 30}, {MAX, 30}, {2, 30}, {5, 30}, {9, 36, 10, 0}, {9, 0, 2, 0}, {0, MAX, -1, MIN},
            {7, 36, 7, 42}, {8, 36, 8, 39}, {8, 36, 9, 39, 9, 42, 8, 45},
        };
        for (int[] pairs : unlike) {
            x = Checks.launch("w305140 g6 s9");
            Checks.fill(x, 0, pairs);
            duePairs(Arrays.toString(pairs), x, UNLIKE);
        }
        for (int a : new int[] {0, 1, 6, 7, 8, 9}) {
            Checks.fill(x, 0, a, MAX);
            Checks.due("ACT " + a + " can be", x.feigns(0), 0);
        }
        PumpSpells y = behind("w305140 g6", 7);
        Checks.fill(y, 0, 7, 0);
        duePairs("no CARGO left", y, UNLIKE);
        PumpSpells z = behind("w305140 g6", 8);
        Checks.fill(z, 0, 8, 0);
        duePairs("the SAIL was set", z, UNLIKE);
    }

    private static void aboveNinetyNine() {
        Doc.promise(32, "(WATER above 99 does not matter here, nor in kinds(), leaks(): HOURS go on till LAND;");
        PumpSpells x = Checks.launch("w951040 g6");
        dueFeigns(x, 0b1, 1, 9, 99, 9, 103, 9, 108);
        Checks.due("kinds", x.kinds(0, 0), 0b111111);
        Checks.due("leaks", x.leaks(0), 1 << 1);
        PumpSpells y = Checks.launch("w961040 g6");
        dueFeigns(y, 0b0, 1, 9, 100, 0, 99, 0, 97);
        dueFeigns(y, 0b1, 0, 9, 100, 0, 102, 0, 104);
        Checks.due("kinds", y.kinds(0, 0), 0b001000);
        Checks.due("leaks", y.leaks(0), 0);
        PumpSpells z = behind("w961040 g6", 9);
        Checks.dueTold("SUNK", z, z.tell(8), 1);
        dueFeigns(z, 0b1, 1, 9, 105, 9, 110);
        dueFeigns(z, 0b0, 1, 0, 99, 0, 97);
        Checks.due("kinds when SUNK", z.kinds(0, 0), 0b000101);
        Checks.due("leaks when SUNK", z.leaks(0), 1 << 1);
    }

    private static void tillLand() {
        Doc.promise(32, "HOURS go on till LAND; behind that none can be)");
        for (int hours : new int[] {1, 2, 19, 20}) {
            PumpSpells x = Checks.launch("w0010" + hours / 10 + hours % 10 + " g6");
            int[] pairs = new int[2 * hours];
            for (int h = 0; h < hours; h++) {
                pairs[2 * h] = 9;
                pairs[2 * h + 1] = h + 1;
            }
            dueFeigns(x, 0b1, 1, pairs);
            Checks.due("kinds", x.kinds(0, 0), 0b111111);
            Checks.due("leaks", x.leaks(0), 1 << 1);
            if (hours < 20) {
                int[] more = Arrays.copyOf(pairs, pairs.length + 2);
                more[2 * hours] = 9;
                more[2 * hours + 1] = hours + 1;
                Checks.fill(x, 0, more);
                duePairs("one HOUR behind " + hours, x, UNLIKE);
            }
        }
        PumpSpells y = behind("w001002 g6", 9);
        dueFeigns(y, 0b1, 1, 9, 2);
        Checks.fill(y, 0, 9, 2, 9, 3);
        duePairs("an HOUR passed already", y, UNLIKE);
        y.act(9);
        dueFeigns(y, 0b1, 1);
        Checks.fill(y, 0, 9, 3);
        duePairs("at LAND", y, UNLIKE);
        PumpSpells z = behind("w961001 g6", 9);
        dueFeigns(z, 0b1, 1);
        Checks.fill(z, 0, 9, 105);
        duePairs("SUNK in the last HOUR", z, UNLIKE);
    }

    private static void feignsOrder() {
        Doc.promise(32, "BAD; STATE: no GANGS; NOTHING; SIZE: not by pairs; UNLIKE");
        Doc.promise(32, "(In this order.)");
        PumpSpells x = new PumpSpells();
        Checks.dueBad("BAD ahead of STATE", x, x::feigns, -1, 6, MIN, MAX);
        Checks.dueRefused("STATE ahead of NOTHING", x, () -> x.feigns(0), STATE);
        Checks.fill(x, 0, 9);
        Checks.dueRefused("STATE ahead of SIZE", x, () -> x.feigns(0), STATE);
        Checks.fill(x, 0, 10, 9);
        Checks.dueRefused("STATE ahead of UNLIKE", x, () -> x.feigns(0), STATE);
        Checks.relaunch(x, "w305140 g6");
        Checks.dueFinding("NOTHING", x, () -> x.feigns(1), NOTHING);
        Checks.fill(x, 0, 10, 9, 10);
        Checks.dueFinding("SIZE ahead of UNLIKE", x, () -> x.feigns(0), SIZE);
    }

    // ---- 33 kinds

    private static void dueKinds(PumpSpells x, int i, int set, int... pairs) {
        Checks.fill(x, 0, pairs);
        int asked = x.asked();
        long digest = x.digest();
        Checks.due("kinds(" + i + ") of " + Arrays.toString(pairs), x.kinds(i, 0), set);
        Checks.due("asked() stays", x.asked(), asked);
        Checks.due("kinds is aside", x.digest(), digest);
    }

    private static void kindsByInches() {
        Doc.promise(33, "Of which KINDS (bits) a GANG can be, so.");
        int[] sets = {0, 0b010010, 0, 0b100000, 0b000101, 0, 0, 0b001000, 0, 0};
        for (int i = 0; i < 2; i++) {
            PumpSpells x = Checks.launch("w305240 g6 l9");
            for (int water = 26; water <= 35; water++) {
                dueKinds(x, i, sets[water - 26], i, water);
            }
            dueKinds(x, i, 0b111111);
            dueKinds(x, i, 0b111111, 9, 36);
            dueKinds(x, i, 0, 9, 37);
        }
        // of the other GANG it tells nothing
        dueKinds(Checks.launch("w305240 g6 l9"), 0, 0b111111, 1, 27);
        dueKinds(Checks.launch("w305240 g6 l9"), 0, 0, 1, 30);
    }

    private static void kindsByStrength() {
        Doc.promise(33, "Of which KINDS (bits) a GANG can be, so.");
        PumpSpells x = Checks.launch("w305240 g1");
        dueKinds(x, 0, 0b010000, 0, 27);
        dueKinds(x, 0, 0b100000, 0, 29);
        dueKinds(x, 0, 0b000100, 0, 30);
        dueKinds(x, 0, 0b000010, 0, 32);
        dueKinds(x, 0, 0b000001, 0, 33);
        dueKinds(x, 0, 0, 0, 34);
        dueKinds(x, 0, 0b001000, 0, 35);
        // of 3 a RACING one has too little, of 4 enough
        dueKinds(Checks.launch("w305240 g3"), 0, 0b010000, 0, 27);
        dueKinds(Checks.launch("w305240 g4"), 0, 0b010010, 0, 27);
        dueKinds(Checks.launch("w305240 g4"), 0, 0b010000, 0, 27, 0, 24);
        dueKinds(Checks.launch("w305240 g4"), 0, 0b000010, 0, 27, 0, 29);
        // FORCE stays, too: rested it has no more than that
        dueKinds(Checks.launch("w305240 g3"), 0, 0b000010, 0, 32, 9, 38, 9, 44, 9, 50, 9, 57, 0, 60);
    }

    private static void kindsByChoke() {
        Doc.promise(33, "Of which KINDS (bits) a GANG can be, so.");
        // WATER is 0 by all KINDS; but a RACING one chokes by 2 an HOUR, which the other GANG shows
        PumpSpells x = Checks.launch("w001040 s9 s9");
        dueKinds(x, 0, 0b111111, 0, 0, 0, 0, 6, 1);
        dueKinds(x, 0, 0b111111, 0, 0, 9, 1, 0, 0, 9, 1, 9, 2, 9, 3, 1, 0);
        dueKinds(x, 0, 0b101101, 0, 0, 0, 0, 0, 0, 9, 1, 9, 2, 9, 3, 9, 4, 9, 5, 1, 0);
        dueKinds(x, 0, 0b010010, 0, 0, 0, 0, 0, 0, 9, 1, 9, 2, 9, 3, 9, 4, 9, 5, 1, 4);
    }

    private static void kindsRefused() {
        Doc.promise(33, "BAD; NOTHING; SIZE; UNLIKE.");
        for (int n : new int[] {1, 2, 6}) {
            PumpSpells x = Checks.launch("w305140" + "g6".repeat(n));
            Checks.fill(x, 0, 9, 36);
            Checks.dueRange("kinds(i, 0) of " + n, x, i -> x.kinds(i, 0), 0, n - 1);
        }
        PumpSpells x = Checks.launch("w305140 g6");
        Checks.dueBad("BAD ahead of NOTHING", x, i -> x.kinds(i, 0), -1, 1);
        Checks.dueBad("BAD by its ROW", x, r -> x.kinds(0, r), -1, 6, MIN, MAX);
        Checks.dueFinding("NOTHING", x, () -> x.kinds(0, 0), NOTHING);
        Checks.fill(x, 0, 10, 9, 10);
        Checks.dueFinding("SIZE ahead of UNLIKE", x, () -> x.kinds(0, 0), SIZE);
        Checks.dueBad("BAD ahead of SIZE", x, i -> x.kinds(i, 0), 1);
        Checks.fill(x, 0, 10, 9);
        Checks.dueFinding("UNLIKE", x, () -> x.kinds(0, 0), UNLIKE);
        PumpSpells y = new PumpSpells();
        Checks.dueBad("without GANGS", y, i -> y.kinds(i, 0), -1, 0, 5);
    }

    // ---- 34 leaks

    private static void dueLeaks(PumpSpells x, int set, int... pairs) {
        Checks.fill(x, 0, pairs);
        int asked = x.asked();
        long digest = x.digest();
        Checks.due("leaks of " + Arrays.toString(pairs), x.leaks(0), set);
        Checks.due("asked() stays", x.asked(), asked);
        Checks.due("leaks is aside", x.digest(), digest);
    }

    private static void leaksByInches() {
        Doc.promise(34, "The LEAK (1 .. 9; bits) by which it can be so");
        PumpSpells x = Checks.launch("w305240 g6");
        dueLeaks(x, 0b1111111110);
        for (int leak = 0; leak <= 10; leak++) {
            dueLeaks(x, leak >= 1 && leak <= 9 ? 1 << leak : 0, 9, 31 + leak);
        }
        PumpSpells y = Checks.launch("w005240 g6");
        dueLeaks(y, 0b0001111110, 0, 0);
        dueLeaks(y, 0b0010000000, 0, 1);
        dueLeaks(y, 0b1000000000, 0, 3);
        dueLeaks(y, 0, 0, 4);
        dueLeaks(y, 0, 0, -1);
    }

    private static void leaksAllAsTheyAre() {
        Doc.promise(34, "all as they are.");
        PumpSpells x = behind("w005240 g6", 8);
        // WATER 5, half of the LEAK: of 2 and 3 it is 1
        dueLeaks(x, 0b0000000010, 9, 5);
        dueLeaks(x, 0b0000001100, 9, 6);
        dueLeaks(x, 0b1100000000, 9, 9);
        dueLeaks(x, 0, 9, 10);
        PumpSpells y = behind("w005440 g6", 7, 7, 7, 7);
        Checks.dueTold("WATER", y, y.tell(0), 18);
        // four thrown over: the LEAK less 2, 0 at least
        dueLeaks(y, 0b0000000110, 9, 18);
        dueLeaks(y, 0b0000001000, 9, 19);
        dueLeaks(y, 0b1000000000, 9, 25);
    }

    private static void leaksRefused() {
        Doc.promise(34, "BAD; STATE; NOTHING; SIZE; UNLIKE. (In this order.)");
        PumpSpells x = new PumpSpells();
        Checks.dueBad("BAD ahead of STATE", x, x::leaks, -1, 6, MIN, MAX);
        Checks.dueRefused("STATE ahead of NOTHING", x, () -> x.leaks(0), STATE);
        Checks.fill(x, 0, 9);
        Checks.dueRefused("STATE ahead of SIZE", x, () -> x.leaks(0), STATE);
        Checks.fill(x, 0, 10, 9);
        Checks.dueRefused("STATE ahead of UNLIKE", x, () -> x.leaks(0), STATE);
        Checks.relaunch(x, "w305140 g6");
        Checks.dueFinding("NOTHING", x, () -> x.leaks(1), NOTHING);
        Checks.fill(x, 0, 10, 9, 10);
        Checks.dueFinding("SIZE ahead of UNLIKE", x, () -> x.leaks(0), SIZE);
    }
}
