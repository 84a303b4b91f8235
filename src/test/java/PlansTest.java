/** Promises 21 to 24. */
public final class PlansTest {
    private static final int BAD = PumpSpells.BAD, NONE = PumpSpells.NONE, STATE = PumpSpells.STATE;
    private static final int NOTHING = 1, UNLIKE = 3;

    public static void main(String[] args) {
        run();
        runRefused();
        best();
        againstRun("w305214 g3 r5");
        againstRun("w903114 s2 l9 f3");
        againstRun("w959003 c1");
        againstRun("w601102 g1 g9 r9 s9 f9 l1");
        eachOnANewShip();
        ended();
        searchRefused();
        Checks.end("PlansTest");
    }

    private static void dueRun(PumpSpells x, int first, int water, int... acts) {
        Checks.fill(x, 0, acts);
        long digest = x.digest();
        Checks.due("run", x.run(0), first);
        Checks.due("run: asked()", x.asked(), water);
        Checks.due("run is aside", x.digest(), digest);
    }

    private static void run() {
        PumpSpells x = Checks.launch("w305204 g6 r9");
        dueRun(x, 0, 30);
        dueRun(x, 1, 27, 1);
        dueRun(x, 4, 39, 0, 1, 6, 9);
        dueRun(x, 4, 39, 0, 1, 6, 9, 9);
        dueRun(x, 1, 30, 0, 2);
        dueRun(x, 0, 30, 5);
        dueRun(x, 1, 36, 8, 8, 1);
        dueRun(x, 2, 42, 7, 7, 7);
        x.act(0);
        dueRun(x, 3, 42, 9, 9, 0, 9);
        PumpSpells y = Checks.launch("w855009 g6");
        dueRun(y, 1, 101, 9, 9, 9);
        dueRun(y, 2, 103, 0, 9, 9);
        y.act(9);
        y.act(9);
        dueRun(y, 0, 101, 9);
        dueRun(y, 0, 101);
        int[] forty = new int[40];
        java.util.Arrays.fill(forty, 9);
        dueRun(Checks.launch("w001040 g9"), 40, 57, forty);
    }

    private static void runRefused() {
        PumpSpells x = new PumpSpells();
        Checks.dueRefused("run(-1)", x, () -> x.run(-1), BAD);
        Checks.dueRefused("run(6)", x, () -> x.run(6), BAD);
        Checks.dueRefused("run(0) without gangs", x, () -> x.run(0), STATE);
        Checks.relaunch(x, "w305204 g6 r9");
        Checks.dueFinding("run(0)", x, () -> x.run(0), NOTHING);
        Checks.fill(x, 0, 9, 10);
        Checks.dueFinding("run of 10", x, () -> x.run(0), UNLIKE);
        Checks.fill(x, 0, -1);
        Checks.dueFinding("run of -1", x, () -> x.run(0), UNLIKE);
        Checks.fill(x, 0, 5, Integer.MAX_VALUE);
        Checks.dueFinding("run of no ACT behind one that can't be", x, () -> x.run(0), UNLIKE);
    }

    private static void best() {
        PumpSpells x = Checks.launch("w305204 g6 r9");
        x.row(4, 7);
        Checks.due("best(0, 4)", x.best(0, 4), 30);
        Checks.dueRow("none", x, 4);
        Checks.due("best(1, 4)", x.best(1, 4), 27);
        Checks.dueRow("one", x, 4, 1);
        Checks.due("best(2, 4)", x.best(2, 4), 24);
        Checks.dueRow("two", x, 4, 1, 1);
        PumpSpells y = Checks.launch("w001104 s9 s9");
        Checks.due("the first of many", y.best(3, 0), 0);
        Checks.dueRow("the first", y, 0, 0, 0, 0);
        PumpSpells z = Checks.launch("w959003 c1");
        z.row(1, 2);
        Checks.due("none keeps it afloat", z.best(2, 1), NONE);
        Checks.dueRow("the row stays", z, 1, 0, 0);
        Checks.due("one hour does not either", z.best(1, 0), NONE);
        Checks.due("no row comes", z.count(6), 1);
    }

    /** best(), afloat(), firsts() as run() judges each PLAN. */
    private static void againstRun(String text) {
        PumpSpells x = Checks.launch(text);
        for (int n = 0; n <= 4; n++) {
            int most = (int) Math.pow(10, n);
            int many = 0;
            int least = NONE;
            int found = 0;
            int firsts = 0;
            for (int number = 0; number < most; number++) {
                if (number % Checks.TURN == 0) {
                    x = Checks.launch(text);
                }
                x.row(5, n);
                for (int i = n - 1, left = number; i >= 0; i--, left /= 10) {
                    x.lay(5, i, left % 10);
                }
                if (x.run(5) == n) {
                    many++;
                    firsts |= n == 0 ? 0 : 1 << number / (most / 10);
                    if (least == NONE || x.asked() < least) {
                        least = x.asked();
                        found = number;
                    }
                }
            }
            x = Checks.launch(text);
            dueFound(x, text, n, least, found);
            Checks.dueChance("afloat(" + n + ") of " + text, x, x.afloat(n), many, 1);
            if (n > 0) {
                Checks.due("firsts(" + n + ") of " + text, x.firsts(n), firsts);
            }
        }
    }

    private static void dueFound(PumpSpells x, String text, int n, int least, int found) {
        Checks.due("best(" + n + ", 4) of " + text, x.best(n, 4), least);
        if (least != NONE) {
            int[] plan = new int[n];
            for (int i = n - 1, left = found; i >= 0; i--, left /= 10) {
                plan[i] = left % 10;
            }
            Checks.dueRow("best(" + n + ") of " + text, x, 4, plan);
        }
    }

    private static void eachOnANewShip() {
        Checks.due("firsts(1)", Checks.launch("w953002 s9 f9").firsts(1), 0b11);
        Checks.due("firsts(2)", Checks.launch("w305104 g6 r9").firsts(2), 0b1111000011);
        PumpSpells x = Checks.launch("w953002 s9 f9");
        Checks.dueChance("afloat(1)", x, x.afloat(1), 2, 1);
        x.act(0);
        Checks.due("firsts(1) behind an hour", x.firsts(1), 0b11);
    }

    private static void ended() {
        PumpSpells x = Checks.launch("w001001 g9");
        x.act(9);
        Checks.due("best(0) at LAND", x.best(0, 0), 1);
        Checks.due("best(1) at LAND", x.best(1, 0), NONE);
        Checks.dueChance("afloat(0) at LAND", x, x.afloat(0), 1, 1);
        Checks.dueChance("afloat(1) at LAND", x, x.afloat(1), 0, 1);
        Checks.due("firsts(1) at LAND", x.firsts(1), 0);
        PumpSpells y = Checks.launch("w999009 g9");
        y.act(9);
        Checks.due("best(0) SUNK", y.best(0, 0), NONE);
        Checks.dueChance("afloat(0) SUNK", y, y.afloat(0), 0, 1);
        Checks.due("firsts(4) SUNK", y.firsts(4), 0);
    }

    private static void searchRefused() {
        PumpSpells x = new PumpSpells();
        Checks.dueRefused("best(0, 0) without gangs", x, () -> x.best(0, 0), STATE);
        Checks.dueRefused("best(5, 0) without gangs", x, () -> x.best(5, 0), BAD);
        Checks.dueRefused("afloat(0) without gangs", x, () -> x.afloat(0), STATE);
        Checks.dueRefused("afloat(5) without gangs", x, () -> x.afloat(5), BAD);
        Checks.dueRefused("firsts(1) without gangs", x, () -> x.firsts(1), STATE);
        Checks.dueRefused("firsts(0) without gangs", x, () -> x.firsts(0), BAD);
        Checks.relaunch(x, "w305204 g6 r9");
        Checks.dueRefused("best(-1, 0)", x, () -> x.best(-1, 0), BAD);
        Checks.dueRefused("best(5, 0)", x, () -> x.best(5, 0), BAD);
        Checks.dueRefused("best(1, -1)", x, () -> x.best(1, -1), BAD);
        Checks.dueRefused("best(1, 6)", x, () -> x.best(1, 6), BAD);
        Checks.dueRefused("afloat(-1)", x, () -> x.afloat(-1), BAD);
        Checks.dueRefused("afloat(5)", x, () -> x.afloat(5), BAD);
        Checks.dueRefused("firsts(0)", x, () -> x.firsts(0), BAD);
        Checks.dueRefused("firsts(5)", x, () -> x.firsts(5), BAD);
    }
}
