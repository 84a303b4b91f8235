/** Promises 31 to 34. */
public final class SoundedTest {
    private static final int BAD = PumpSpells.BAD, STATE = PumpSpells.STATE;
    private static final int NOTHING = 1, UNLIKE = 3, SIZE = 5;
    private static final String LETTERS = "grsflc";

    public static void main(String[] args) {
        gains();
        gainsRefused();
        feigns();
        kinds();
        leaks();
        byShipsOfOtherKinds();
        overTheBrim();
        pairsRefused();
        Checks.end("SoundedTest");
    }

    private static void dueGains(int answer, int... soundings) {
        PumpSpells x = new PumpSpells();
        Checks.fill(x, 0, soundings);
        Checks.due("gains of " + java.util.Arrays.toString(soundings), x.gains(0), answer);
    }

    private static void gains() {
        dueGains(1, 5, 8);
        dueGains(0, 5, 7);
        dueGains(0, 5, 5);
        dueGains(0, 5, 3);
        dueGains(2, 5, 2);
        dueGains(1, 5, 90, 0, 9);
        dueGains(2, 5, 90, 1);
        dueGains(2, Integer.MAX_VALUE, Integer.MIN_VALUE);
        dueGains(1, Integer.MIN_VALUE, Integer.MAX_VALUE);
        dueGains(1, -2, 0, 1);
    }

    private static void gainsRefused() {
        PumpSpells x = new PumpSpells();
        Checks.dueRefused("gains(-1)", x, () -> x.gains(-1), BAD);
        Checks.dueRefused("gains(6)", x, () -> x.gains(6), BAD);
        Checks.dueFinding("gains(0)", x, () -> x.gains(0), NOTHING);
        x.row(0, 1);
        Checks.dueFinding("gains of one", x, () -> x.gains(0), SIZE);
        x.row(0, 0);
        Checks.dueFinding("gains of none", x, () -> x.gains(0), SIZE);
    }

    private static void dueFeigns(PumpSpells x, int set, int asked, int... pairs) {
        Checks.fill(x, 0, pairs);
        long digest = x.digest();
        Checks.due("feigns of " + java.util.Arrays.toString(pairs), x.feigns(0), set);
        Checks.due("feigns: asked()", x.asked(), asked);
        Checks.due("feigns is aside", x.digest(), digest);
    }

    private static void feigns() {
        PumpSpells x = Checks.launch("w305214 g6 g6 f5 s9");
        dueFeigns(x, 0b1111, 1);
        dueFeigns(x, 0b1111, 1, 9, 36);
        dueFeigns(x, 0b1110, 1, 0, 30);
        dueFeigns(x, 0b0001, 0, 0, 33);
        dueFeigns(x, 0b0010, 0, 0, 30, 1, 33);
        dueFeigns(x, 0b1100, 1, 0, 30, 1, 30);
        dueFeigns(x, 0b0001, 0, 0, 33, 1, 33);
        dueFeigns(x, 0b0000, 0, 0, 33, 1, 36);
        dueFeigns(x, 0b0000, 0, 0, 31);
        dueFeigns(x, 0b1111, 1, 2, 33);
        dueFeigns(x, 0b0000, 0, 2, 30);
        dueFeigns(x, 0b1000, 0, 3, 33);
        x.act(9);
        dueFeigns(x, 0b0001, 0, 0, 39);
    }

    private static void dueKinds(PumpSpells x, int i, int set, int... pairs) {
        Checks.fill(x, 0, pairs);
        int asked = x.asked();
        long digest = x.digest();
        Checks.due("kinds(" + i + ") of " + java.util.Arrays.toString(pairs), x.kinds(i, 0), set);
        Checks.due("kinds tells nothing", x.asked(), asked);
        Checks.due("kinds is aside", x.digest(), digest);
    }

    private static void kinds() {
        PumpSpells x = Checks.launch("w305214 g6 f5");
        dueKinds(x, 1, 0b111111);
        dueKinds(x, 0, 0b111111, 1, 33, 1, 36);
        dueKinds(x, 0, 0b000101, 0, 30);
        dueKinds(x, 0, 0b010010, 0, 27);
        dueKinds(x, 0, 0b001000, 0, 33);
        dueKinds(x, 0, 0b100000, 0, 29);
        dueKinds(x, 0, 0b000000, 0, 28);
        // of 6 strength a racing one is weak in the second hour, a last one too, but pumps as much
        dueKinds(x, 0, 0b000010, 0, 27, 0, 29);
        dueKinds(x, 0, 0b010000, 0, 27, 0, 24);
        // a gang is weak in the fourth hour, a sung one is not
        dueKinds(x, 0, 0b000001, 0, 30, 0, 30, 0, 30, 0, 33);
        dueKinds(x, 0, 0b000100, 0, 30, 0, 30, 0, 30, 0, 30);
    }

    private static void dueLeaks(PumpSpells x, int set, int... pairs) {
        Checks.fill(x, 0, pairs);
        long digest = x.digest();
        Checks.due("leaks of " + java.util.Arrays.toString(pairs), x.leaks(0), set);
        Checks.due("leaks is aside", x.digest(), digest);
    }

    private static void leaks() {
        PumpSpells x = Checks.launch("w305214 g6 f5");
        dueLeaks(x, 0b1111111110);
        dueLeaks(x, 1 << 5, 9, 36);
        dueLeaks(x, 1 << 1, 9, 32);
        dueLeaks(x, 1 << 9, 9, 40, 0, 44);
        dueLeaks(x, 0, 9, 31);
        dueLeaks(x, 0, 9, 41);
        x.act(8);
        dueLeaks(x, 0b1100000, 9, 39);
        dueLeaks(x, 0, 9, 39, 9, 43);
        PumpSpells y = Checks.launch("w005214 g6");
        dueLeaks(y, 0b0001111110, 0, 0);
    }

    /** kinds() and feigns() as SHIPS with other letters do, by their own hours. */
    private static void byShipsOfOtherKinds() {
        String[] texts = {"w305214 g6 r9 s2", "w205940 l5 c2 f3", "w205309 r3 r9"};
        int[][] plans = {{0, 1, 0, 7, 0, 8, 1, 1, 6, 0}, {1, 1, 1, 0, 0, 0, 2, 2, 9, 1}, {0, 0, 1, 1, 0, 6, 1, 0}};
        for (int s = 0; s < texts.length; s++) {
            for (int i = 0; i < 2; i++) {
                for (int letter = 0; letter < 6; letter++) {
                    int[] pairs = soundings(withLetter(texts[s], i, LETTERS.charAt(letter)), plans[s]);
                    dueKindsByOthers(texts[s], i, plans[s], pairs);
                }
            }
        }
    }

    private static String withLetter(String text, int i, char letter) {
        int place = 8 + 3 * i;
        return text.substring(0, place) + letter + text.substring(place + 1);
    }

    private static int[] soundings(String text, int[] plan) {
        PumpSpells x = Checks.launch(text);
        int[] pairs = new int[2 * plan.length];
        for (int h = 0; h < plan.length; h++) {
            pairs[2 * h] = plan[h];
            pairs[2 * h + 1] = x.act(plan[h]);
        }
        return pairs;
    }

    private static void dueKindsByOthers(String text, int i, int[] plan, int[] pairs) {
        int set = 0;
        for (int letter = 0; letter < 6; letter++) {
            int[] others = soundings(withLetter(text, i, LETTERS.charAt(letter)), plan);
            if (java.util.Arrays.equals(others, pairs)) {
                set |= 1 << letter;
            }
        }
        PumpSpells x = Checks.launch(text);
        Checks.fill(x, 2, pairs);
        Checks.due("kinds by ships of other kinds", x.kinds(i, 2), set);
        Checks.due("feigns likewise", x.feigns(2) >> i & 1, set >> 3 & 1);
        int own = LETTERS.indexOf(text.charAt(8 + 3 * i));
        Checks.due("as they are", x.asked(), set >> own & 1);
    }

    private static void overTheBrim() {
        PumpSpells x = Checks.launch("w959003 g6");
        dueFeigns(x, 0b1, 1, 9, 107, 9, 120, 9, 133);
        dueFeigns(x, 0b0, 1, 9, 107, 0, 114);
        dueFeigns(x, 0b1, 0, 9, 107, 0, 117);
        dueLeaks(x, 1 << 9, 9, 107, 9, 120);
        Checks.fill(x, 0, 9, 107, 9, 120, 9, 133, 9, 147);
        Checks.dueFinding("feigns behind LAND", x, () -> x.feigns(0), UNLIKE);
        Checks.dueFinding("kinds behind LAND", x, () -> x.kinds(0, 0), UNLIKE);
        Checks.dueFinding("leaks behind LAND", x, () -> x.leaks(0), UNLIKE);
        x.act(9);
        Checks.due("SUNK", Checks.told(x, 8), 1);
        dueFeigns(x, 0b0, 1, 0, 114, 9, 127);
        Checks.fill(x, 0, 0, 114, 9, 127, 9, 141);
        Checks.dueFinding("feigns behind LAND, SUNK", x, () -> x.feigns(0), UNLIKE);
        PumpSpells y = Checks.launch("w001001 g6");
        y.act(9);
        dueFeigns(y, 0b1, 1);
        Checks.fill(y, 0, 9, 2);
        Checks.dueFinding("feigns at LAND", y, () -> y.feigns(0), UNLIKE);
    }

    private static void pairsRefused() {
        PumpSpells x = new PumpSpells();
        Checks.dueRefused("feigns(-1)", x, () -> x.feigns(-1), BAD);
        Checks.dueRefused("feigns(6)", x, () -> x.feigns(6), BAD);
        Checks.dueRefused("leaks(-1)", x, () -> x.leaks(-1), BAD);
        Checks.dueRefused("leaks(6)", x, () -> x.leaks(6), BAD);
        Checks.dueRefused("feigns(0) without gangs", x, () -> x.feigns(0), STATE);
        Checks.dueRefused("leaks(0) without gangs", x, () -> x.leaks(0), STATE);
        Checks.dueRefused("kinds(0, 0) without gangs", x, () -> x.kinds(0, 0), BAD);
        findingsOfPairs();
        Checks.relaunch(x, "w305114 g6 f5");
        Checks.dueRefused("kinds(-1, 0)", x, () -> x.kinds(-1, 0), BAD);
        Checks.dueRefused("kinds(2, 0)", x, () -> x.kinds(2, 0), BAD);
        Checks.dueRefused("kinds(0, -1)", x, () -> x.kinds(0, -1), BAD);
        Checks.dueRefused("kinds(0, 6)", x, () -> x.kinds(0, 6), BAD);
    }

    private static void findingsOfPairs() {
        dueFindings(Checks.launch("w305114 g6 f5"), NOTHING);
        int[][] sizes = {{77}, {9, 36, 10}};
        int[][] unlike = {{9, 1, 10, 1}, {-1, 30}, {2, 30}, {7, 36, 7, 42}, {8, 36, 8, 39}};
        for (int[] pairs : sizes) {
            PumpSpells x = Checks.launch("w305114 g6 f5");
            Checks.fill(x, 0, pairs);
            dueFindings(x, SIZE);
        }
        for (int[] pairs : unlike) {
            PumpSpells x = Checks.launch("w305114 g6 f5");
            Checks.fill(x, 0, pairs);
            dueFindings(x, UNLIKE);
        }
    }

    private static void dueFindings(PumpSpells x, int finding) {
        Checks.dueFinding("feigns(0)", x, () -> x.feigns(0), finding);
        Checks.dueFinding("kinds(1, 0)", x, () -> x.kinds(1, 0), finding);
        Checks.dueFinding("leaks(0)", x, () -> x.leaks(0), finding);
    }
}
