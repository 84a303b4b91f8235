/** Promises 12 to 14. */
public final class GangsTest {
    private static final int BAD = PumpSpells.BAD;
    private static final int UNLIKE = 3;

    public static void main(String[] args) {
        gangFresh();
        gangWeak();
        gangChoked();
        gangRefused();
        markFresh();
        markWeakAndChoked();
        markRefused();
        force();
        Checks.end("GangsTest");
    }

    private static void dueGang(PumpSpells x, int i, int strength, int pumps, int behind) {
        Checks.due("strength of " + i, Checks.ofGang(x, i, 2), strength);
        Checks.due("what " + i + " would pump", Checks.ofGang(x, i, 3), pumps);
        Checks.due("strength of " + i + " behind", Checks.ofGang(x, i, 4), behind);
    }

    private static void gangFresh() {
        PumpSpells x = Checks.launch(Checks.ALL_KINDS);
        dueGang(x, 0, 6, 6, 4);
        dueGang(x, 1, 9, 9, 5);
        dueGang(x, 2, 4, 6, 3);
        dueGang(x, 3, 5, 3, 3);
        dueGang(x, 4, 7, 9, 3);
        dueGang(x, 5, 3, 7, 2);
    }

    private static void gangWeak() {
        PumpSpells x = Checks.launch("w001040 g1 r3 f1 l3 g2 r4");
        dueGang(x, 0, 1, 3, 0);
        dueGang(x, 1, 3, 4, 0);
        dueGang(x, 2, 1, 1, 0);
        dueGang(x, 3, 3, 9, 0);
        dueGang(x, 4, 2, 6, 0);
        dueGang(x, 5, 4, 9, 0);
        PumpSpells y = Checks.launch("w001040 s1 c1");
        dueGang(y, 0, 1, 6, 0);
        y.act(0);
        dueGang(y, 0, 0, 3, 0);
        y.act(1);
        dueGang(y, 1, 0, 3, 0);
    }

    private static void gangChoked() {
        PumpSpells x = Checks.launch(Checks.ALL_KINDS);
        x.act(1);
        x.act(1);
        Checks.due("CHOKE", Checks.told(x, 5), 4);
        dueGang(x, 0, 6, 6, 4);
        x.act(2);
        Checks.due("CHOKE", Checks.told(x, 5), 5);
        dueGang(x, 0, 6, 2, 4);
        dueGang(x, 1, 2, 1, 0);
        dueGang(x, 2, 3, 2, 2);
        dueGang(x, 3, 5, 1, 3);
        dueGang(x, 4, 7, 3, 3);
        dueGang(x, 5, 3, 2, 2);
    }

    private static void gangRefused() {
        PumpSpells x = Checks.launch("w305314 g6 r9");
        Checks.dueRefused("gang(-1, 0)", x, () -> x.gang(-1, 0), BAD);
        Checks.dueRefused("gang(2, 0)", x, () -> x.gang(2, 0), BAD);
        Checks.dueRefused("gang(6, 0)", x, () -> x.gang(6, 0), BAD);
        Checks.dueRefused("gang(0, -1)", x, () -> x.gang(0, -1), BAD);
        Checks.dueRefused("gang(0, 5)", x, () -> x.gang(0, 5), BAD);
        PumpSpells y = new PumpSpells();
        Checks.dueRefused("gang(0, 0) of no ship", y, () -> y.gang(0, 0), BAD);
        Checks.dueRefused("mark(0, 1) of no ship", y, () -> y.mark(0, 1), BAD);
        Checks.dueRefused("force(0, 1) of no ship", y, () -> y.force(0, 1), BAD);
        Checks.dueRefused("rest(0) of no ship", y, () -> y.rest(0), BAD);
    }

    private static void markFresh() {
        PumpSpells x = Checks.launch(Checks.ALL_KINDS);
        int no = PumpSpells.FINDING;
        int[][] marks = {
            {no, no, no, no, no},
            {2, no, no, no, no},
            {no, 1, no, no, no},
            {no, no, 3, no, no},
            {1, no, no, 9, no},
            {no, 0, no, no, 2},
        };
        for (int i = 0; i < 6; i++) {
            for (int kind = 1; kind <= 5; kind++) {
                Checks.due("mark(" + i + ", " + kind + ")", x.mark(i, kind), marks[i][kind - 1]);
            }
        }
        Checks.due("all of them UNLIKE", x.findings(UNLIKE), 23);
    }

    private static void markWeakAndChoked() {
        PumpSpells x = Checks.launch("w001040 r3 r8 s9 f1 l2 c1");
        Checks.due("a weak racing one", x.mark(0, 1), 0);
        Checks.due("a racing one for two hours", x.mark(1, 1), 2);
        Checks.due("a sung one", x.mark(2, 2), 6);
        Checks.due("a weak feigned one", x.mark(3, 3), 2);
        Checks.due("a last one", x.mark(4, 4), 9);
        Checks.due("a choir", x.mark(5, 5), 2);
        x.act(5);
        Checks.due("a choir without strength", x.mark(5, 5), 1);
        x.act(1);
        x.act(1);
        Checks.due("CHOKE", Checks.told(x, 5), 5);
        Checks.due("a last one, choked", x.mark(4, 4), 3);
        Checks.due("a weak feigned one, choked", x.mark(3, 3), 1);
        Checks.due("a choir that rested", x.mark(5, 5), 2);
        Checks.due("a choir as a sung one", x.mark(5, 2), 0);
        Checks.due("a spent racing one", x.mark(1, 1), 0);
        Checks.due("a choir counts from the first gang on", Checks.launch("w001040 s1 c2 g3").mark(1, 5), 2);
    }

    private static void markRefused() {
        PumpSpells x = Checks.launch(Checks.ALL_KINDS);
        Checks.dueRefused("mark(-1, 1)", x, () -> x.mark(-1, 1), BAD);
        Checks.dueRefused("mark(6, 1)", x, () -> x.mark(6, 1), BAD);
        Checks.dueRefused("mark(0, 0)", x, () -> x.mark(0, 0), BAD);
        Checks.dueRefused("mark(0, -1)", x, () -> x.mark(0, -1), BAD);
        Checks.dueRefused("mark(0, 6)", x, () -> x.mark(0, 6), BAD);
        Checks.dueFinding("mark(1, 4)", x, () -> x.mark(1, 4), UNLIKE);
        Checks.dueFinding("mark(2, 5)", x, () -> x.mark(2, 5), UNLIKE);
    }

    private static void force() {
        PumpSpells x = Checks.launch(Checks.ALL_KINDS);
        Checks.due("force(0, 4)", x.force(0, 4), 6);
        Checks.due("FORCE", Checks.ofGang(x, 0, 1), 4);
        Checks.due("STRENGTH comes down", Checks.ofGang(x, 0, 2), 4);
        Checks.due("force(0, 9)", x.force(0, 9), 4);
        Checks.due("STRENGTH stays", Checks.ofGang(x, 0, 2), 4);
        Checks.due("an hour of rest", x.act(9), 36);
        Checks.due("STRENGTH grows up to the new one", Checks.ofGang(x, 0, 2), 5);
        Checks.due("the others stay", Checks.ofGang(x, 1, 2), 9);
        Checks.dueRefused("force(0, 0)", x, () -> x.force(0, 0), BAD);
        Checks.dueRefused("force(0, 10)", x, () -> x.force(0, 10), BAD);
        Checks.dueRefused("force(-1, 3)", x, () -> x.force(-1, 3), BAD);
        Checks.dueRefused("force(6, 3)", x, () -> x.force(6, 3), BAD);
        Checks.due("force(5, 1)", x.force(5, 1), 3);
        Checks.due("force(5, 1) again", x.force(5, 1), 1);
    }
}
