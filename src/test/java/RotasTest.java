/** Promises 25 to 30. */
public final class RotasTest {
    private static final int BAD = PumpSpells.BAD, NONE = PumpSpells.NONE, STATE = PumpSpells.STATE;
    private static final int NOTHING = 1, UNLIKE = 3, SIZE = 5;

    public static void main(String[] args) {
        rota();
        rotaRefused();
        watch();
        watchAgainstRota("w305209 g3 r5 s2");
        watchAgainstRota("w803140 l9 c9");
        watchAgainstRota("w959003 c1");
        watchAgainstRota(Checks.ALL_KINDS);
        watchAgainstRota("w406212 f9 g9 l9");
        lasts();
        inches();
        lighten();
        rest();
        atLand();
        sunk();
        refusedWithoutGangs();
        refused();
        Checks.end("RotasTest");
    }

    private static void dueRota(PumpSpells x, int water, int hours, int... acts) {
        Checks.fill(x, 0, acts);
        long digest = x.digest();
        Checks.due("rota", x.rota(0), water);
        Checks.due("rota: asked()", x.asked(), hours);
        Checks.due("rota is aside", x.digest(), digest);
    }

    private static void rota() {
        PumpSpells x = Checks.launch("w305204 g6 r9");
        dueRota(x, 54, 4, 9);
        dueRota(x, 54, 4, 5);
        dueRota(x, 41, 4, 7, 0);
        dueRota(x, 39, 4, 0, 1, 6, 9, 5, 5, 5, 5, 5, 5, 5, 5);
        dueRota(x, 45, 4, 8);
        dueRota(x, 52, 4, 7, 7, 7);
        x.act(9);
        dueRota(x, 54, 3, 6);
        PumpSpells v = Checks.launch("w001040 g9");
        dueRota(v, 57, 40, 9, 9, 5, 9, 9);
        Checks.due("lasts(9) of forty hours", v.lasts(9), 40);
        PumpSpells y = Checks.launch("w855009 g6");
        dueRota(y, NONE, 2, 9);
        dueRota(y, NONE, 4, 0, 9);
        PumpSpells z = Checks.launch("w855002 g6");
        dueRota(z, NONE, 2, 9);
        dueRota(z, 89, 2, 0);
    }

    private static void rotaRefused() {
        PumpSpells x = new PumpSpells();
        Checks.dueRefused("rota(-1)", x, () -> x.rota(-1), BAD);
        Checks.dueRefused("rota(6)", x, () -> x.rota(6), BAD);
        Checks.dueRefused("rota(0) without gangs", x, () -> x.rota(0), STATE);
        Checks.relaunch(x, "w305204 g6 r9");
        Checks.dueFinding("rota(0)", x, () -> x.rota(0), NOTHING);
        Checks.due("row(0, 0)", x.row(0, 0), 0);
        Checks.dueFinding("rota of none", x, () -> x.rota(0), SIZE);
        Checks.fill(x, 0, 77, 0, 0, 0, 0, 0, 0, 0, 0, 0, 0, 0, 0);
        Checks.dueFinding("rota of 13", x, () -> x.rota(0), SIZE);
        Checks.fill(x, 0, 0, 0, 0, 0, 0, 0, 0, 0, 0, 0, 0, 10);
        Checks.dueFinding("rota of 10", x, () -> x.rota(0), UNLIKE);
        Checks.fill(x, 0, -1);
        Checks.dueFinding("rota of -1", x, () -> x.rota(0), UNLIKE);
    }

    private static void watch() {
        PumpSpells x = Checks.launch("w305204 g6 r9");
        x.row(3, 9);
        // racing: 27, 24, weak: 25, weak and choked: 30; the gang: 30, 30, 30, weak: 33
        Checks.due("watch(1, 3)", x.watch(1, 3), 30);
        Checks.dueRow("watch of one", x, 3, 1);
        PumpSpells y = Checks.launch("w001140 s9 s9");
        Checks.due("the first one, by no water", y.watch(3, 2), 0);
        PumpSpells v = Checks.launch("w031001 f9 g9");
        Checks.due("no water behind one inch", v.watch(1, 2), 0);
        Checks.dueRow("the second one", v, 2, 1);
        PumpSpells z = Checks.launch("w959003 c1");
        z.row(1, 2);
        Checks.due("none does", z.watch(2, 1), NONE);
        Checks.dueRow("the row stays", z, 1, 0, 0);
        Checks.due("no row comes", z.watch(3, 0), NONE);
        Checks.due("count(6)", z.count(6), 1);
    }

    private static void watchAgainstRota(String text) {
        PumpSpells x = Checks.launch(text);
        for (int n = 1; n <= 3; n++) {
            int most = (int) Math.pow(10, n);
            int least = NONE;
            int[] found = new int[n];
            for (int number = 0; number < most; number++) {
                if (number % Checks.TURN == 0) {
                    x = Checks.launch(text);
                }
                int[] acts = new int[n];
                for (int i = n - 1, left = number; i >= 0; i--, left /= 10) {
                    acts[i] = left % 10;
                }
                Checks.fill(x, 5, acts);
                int water = x.rota(5);
                if (water != NONE && (least == NONE || water < least)) {
                    least = water;
                    found = acts;
                }
            }
            x = Checks.launch(text);
            long digest = x.digest();
            Checks.due("watch(" + n + ", 4) of " + text, x.watch(n, 4), least);
            if (least == NONE) {
                Checks.due("watch is aside", x.digest(), digest);
            } else {
                Checks.dueRow("watch(" + n + ") of " + text, x, 4, found);
            }
        }
    }

    private static void lasts() {
        PumpSpells y = Checks.launch("w855009 g6");
        long digest = y.digest();
        Checks.due("lasts(9)", y.lasts(9), 1);
        Checks.due("lasts(0)", y.lasts(0), 4);
        Checks.due("lasts(3), which can't be", y.lasts(3), 1);
        Checks.due("lasts(7) without cargo", y.lasts(7), 1);
        Checks.due("lasts(8), once", y.lasts(8), 2);
        Checks.due("lasts is aside", y.digest(), digest);
        PumpSpells x = Checks.launch("w305204 g6 r9");
        Checks.due("lasts till LAND", x.lasts(9), 4);
        x.act(9);
        Checks.due("lasts till LAND from hour 1", x.lasts(0), 3);
        Checks.due("lasts not at all", Checks.launch("w999002 g1").lasts(0), 0);
    }

    private static void inches() {
        PumpSpells x = Checks.launch("w305204 g6 r9");
        long digest = x.digest();
        Checks.dueTold("inches(0, 9, 2)", x, x.inches(0, 9, 2), 12);
        Checks.dueTold("inches(9, 0, 2)", x, x.inches(9, 0, 2), -12);
        Checks.dueTold("inches(0, 9, 0)", x, x.inches(0, 9, 0), 0);
        Checks.dueTold("inches till LAND", x, x.inches(0, 9, 20), 21);
        Checks.dueTold("inches of one that can't be", x, x.inches(4, 9, 3), 0);
        Checks.dueTold("inches of the sail", x, x.inches(8, 9, 3), 6);
        Checks.due("inches is aside", x.digest(), digest);
        PumpSpells y = Checks.launch("w855009 g6");
        Checks.dueTold("inches till SUNK", y, y.inches(9, 0, 20), 0);
        Checks.dueTold("inches, one SUNK", y, y.inches(0, 9, 2), 12);
        Checks.dueTold("inches, one SUNK before", y, y.inches(0, 9, 4), 5);
    }

    private static void lighten() {
        PumpSpells x = Checks.launch("w701809 s9");
        long digest = x.digest();
        Checks.due("lighten(9)", x.lighten(9), 2);
        Checks.due("lighten(5), which can't be", x.lighten(5), 2);
        Checks.due("lighten(0)", x.lighten(0), 0);
        Checks.due("lighten(7)", x.lighten(7), 0);
        Checks.due("lighten is aside", x.digest(), digest);
        Checks.due("too little cargo", Checks.launch("w701109 s9").lighten(9), NONE);
        Checks.due("all of it", Checks.launch("w701209 s9").lighten(9), 2);
        // thrown over at once they can't be thrown over again
        Checks.due("lighten(7) of four", Checks.launch("w209409 g3").lighten(7), 3);
        Checks.due("a long way", Checks.launch("w806409 g1").lighten(9), NONE);
    }

    private static void rest() {
        PumpSpells x = Checks.launch(Checks.ALL_KINDS);
        Checks.due("rest(1)", x.rest(1), 0);
        x.act(1);
        Checks.due("rest(1) behind an hour", x.rest(1), 4);
        Checks.due("rest(0)", x.rest(0), 0);
        x.act(1);
        Checks.due("rest(1) behind two", x.rest(1), 8);
        x.act(9);
        Checks.due("rest(1) behind a rest", x.rest(1), 7);
        x.force(1, 3);
        Checks.due("rest(1) of less force", x.rest(1), 1);
        Checks.dueRefused("rest(-1)", x, () -> x.rest(-1), BAD);
        Checks.dueRefused("rest(6)", x, () -> x.rest(6), BAD);
    }

    private static void atLand() {
        PumpSpells x = Checks.launch("w205201 g6");
        Checks.due("an hour", x.act(9), 25);
        dueRota(x, 25, 0, 9);
        Checks.due("watch(2, 1)", x.watch(2, 1), 25);
        Checks.dueRow("the first of all", x, 1, 0, 0);
        Checks.due("lasts(0)", x.lasts(0), 0);
        Checks.dueTold("inches(0, 9, 5)", x, x.inches(0, 9, 5), 0);
        Checks.due("lighten(9)", x.lighten(9), 0);
    }

    private static void sunk() {
        PumpSpells x = Checks.launch("w999209 g6");
        Checks.due("an hour", x.act(9), 111);
        dueRota(x, NONE, 0, 9);
        Checks.due("watch(2, 1)", x.watch(2, 1), NONE);
        Checks.due("lasts(0)", x.lasts(0), 0);
        Checks.dueTold("inches(0, 9, 5)", x, x.inches(0, 9, 5), 0);
        Checks.due("lighten(9)", x.lighten(9), NONE);
    }

    private static void refusedWithoutGangs() {
        PumpSpells x = new PumpSpells();
        Checks.dueRefused("watch(1, 0)", x, () -> x.watch(1, 0), STATE);
        Checks.dueRefused("watch(0, 0)", x, () -> x.watch(0, 0), BAD);
        Checks.dueRefused("lasts(9)", x, () -> x.lasts(9), STATE);
        Checks.dueRefused("lasts(10)", x, () -> x.lasts(10), BAD);
        Checks.dueRefused("inches(0, 0, 0)", x, () -> x.inches(0, 0, 0), STATE);
        Checks.dueRefused("inches(0, 0, 21)", x, () -> x.inches(0, 0, 21), BAD);
        Checks.dueRefused("lighten(0)", x, () -> x.lighten(0), STATE);
        Checks.dueRefused("lighten(-1)", x, () -> x.lighten(-1), BAD);
    }

    private static void refused() {
        PumpSpells x = Checks.launch("w305204 g6 r9");
        Checks.dueRefused("watch(0, 0)", x, () -> x.watch(0, 0), BAD);
        Checks.dueRefused("watch(4, 0)", x, () -> x.watch(4, 0), BAD);
        Checks.dueRefused("watch(1, -1)", x, () -> x.watch(1, -1), BAD);
        Checks.dueRefused("watch(1, 6)", x, () -> x.watch(1, 6), BAD);
        Checks.dueRefused("lasts(-1)", x, () -> x.lasts(-1), BAD);
        Checks.dueRefused("lasts(10)", x, () -> x.lasts(10), BAD);
        Checks.dueRefused("inches(-1, 0, 0)", x, () -> x.inches(-1, 0, 0), BAD);
        Checks.dueRefused("inches(10, 0, 0)", x, () -> x.inches(10, 0, 0), BAD);
        Checks.dueRefused("inches(0, -1, 0)", x, () -> x.inches(0, -1, 0), BAD);
        Checks.dueRefused("inches(0, 10, 0)", x, () -> x.inches(0, 10, 0), BAD);
        Checks.dueRefused("inches(0, 0, -1)", x, () -> x.inches(0, 0, -1), BAD);
        Checks.dueRefused("inches(0, 0, 21)", x, () -> x.inches(0, 0, 21), BAD);
        Checks.dueRefused("lighten(-1)", x, () -> x.lighten(-1), BAD);
        Checks.dueRefused("lighten(10)", x, () -> x.lighten(10), BAD);
    }
}
