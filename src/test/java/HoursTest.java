/** Promises 15 to 20. */
public final class HoursTest {
    private static final int BAD = PumpSpells.BAD, STATE = PumpSpells.STATE;
    private static final int NOTHING = 1;

    public static void main(String[] args) {
        tell();
        leaking();
        can();
        pumping();
        choking();
        otherActs();
        theEnds();
        actRefused();
        undo();
        undoAndForces();
        keepAndOn();
        keptHours();
        withoutGangs();
        Checks.end("HoursTest");
    }

    private static void dueTells(String when, PumpSpells x, int... tells) {
        for (int what = 0; what < tells.length; what++) {
            Checks.dueTold(when + ": tell(" + what + ")", x, x.tell(what), tells[what]);
        }
    }

    private static void tell() {
        PumpSpells x = Checks.launch(Checks.ALL_KINDS);
        dueTells("at first", x, 30, 6, 3, 0, 0, 0, 0, 14, 0);
        x.act(1);
        dueTells("pumped", x, 27, 6, 3, 0, 0, 2, 1, 13, 0);
        x.act(7);
        dueTells("thrown over", x, 33, 6, 2, 1, 0, 2, 2, 12, 0);
        x.act(7);
        dueTells("thrown over again", x, 39, 5, 1, 2, 0, 2, 3, 11, 0);
        x.act(8);
        dueTells("the sail set", x, 44, 2, 1, 2, 1, 2, 4, 10, 0);
        x.act(6);
        dueTells("cleared", x, 46, 2, 1, 2, 1, 0, 5, 9, 0);
        Checks.dueRefused("tell(-1)", x, () -> x.tell(-1), BAD);
        Checks.dueRefused("tell(9)", x, () -> x.tell(9), BAD);
    }

    private static void leaking() {
        Checks.due("24 inches", Checks.told(Checks.launch("w241001g1"), 1), 1);
        Checks.due("25 inches", Checks.told(Checks.launch("w251001g1"), 1), 2);
        Checks.due("99 inches", Checks.told(Checks.launch("w999001g1"), 1), 12);
        PumpSpells x = Checks.launch("w001440g1");
        for (int i = 0; i < 4; i++) {
            x.act(7);
        }
        Checks.due("no less than none", Checks.told(x, 1), 0);
        Checks.due("WATER", Checks.told(x, 0), 2);
        x.act(8);
        Checks.due("none by a sail", Checks.told(x, 1), 0);
        PumpSpells y = Checks.launch("w001002g9");
        Checks.due("WATER is no less than none", y.act(0), 0);
    }

    private static void can() {
        PumpSpells x = Checks.launch("w305202 g6 r9");
        Checks.due("all but gangs that are not", x.can(), 0b1111000011);
        x.act(8);
        Checks.due("the sail is set", x.can(), 0b1011000011);
        x.act(9);
        Checks.due("at LAND", x.can(), 0);
        PumpSpells y = Checks.launch("w005012 s1");
        Checks.due("no cargo", y.can(), 0b1101000001);
        PumpSpells z = Checks.launch("w999012 s1");
        z.act(9);
        Checks.due("SUNK", z.can(), 0);
        Checks.due("all six", Checks.launch(Checks.ALL_KINDS).can(), 1023);
    }

    private static void dueStrengths(String when, PumpSpells x, int... strengths) {
        for (int i = 0; i < strengths.length; i++) {
            Checks.due(when + ": strength of " + i, Checks.ofGang(x, i, 2), strengths[i]);
        }
    }

    private static void pumping() {
        int[] water = {30, 27, 30, 33, 27, 29};
        int[] behind = {4, 5, 3, 3, 3, 2};
        int[] choke = {1, 2, 1, 1, 2, 1};
        for (int a = 0; a < 6; a++) {
            PumpSpells x = Checks.launch(Checks.ALL_KINDS);
            Checks.due("act(" + a + ")", x.act(a), water[a]);
            Checks.due("strength behind act(" + a + ")", Checks.ofGang(x, a, 2), behind[a]);
            Checks.due("choke behind act(" + a + ")", Checks.told(x, 5), choke[a]);
        }
        PumpSpells x = Checks.launch("w501340 g3 l5 s1");
        Checks.due("a gang of 3", x.act(0), 47);
        dueStrengths("one hour", x, 1, 5, 1);
        Checks.due("a gang of 1: half", x.act(0), 46);
        dueStrengths("two hours", x, 0, 5, 1);
        Checks.due("a last one", x.act(1), 39);
        dueStrengths("three hours", x, 1, 1, 1);
        Checks.due("a last one of 1: as much", x.act(1), 32);
        dueStrengths("four hours", x, 2, 0, 1);
        Checks.due("rest", x.act(9), 34);
        dueStrengths("five hours", x, 3, 1, 1);
        Checks.due("no more than FORCE", x.act(9), 36);
        dueStrengths("six hours", x, 3, 2, 1);
    }

    private static void choking() {
        PumpSpells x = Checks.launch("w801040 s9 r9");
        int[] water = {78, 76, 74, 71, 68};
        for (int h = 0; h < 5; h++) {
            Checks.due("a sung hour " + h, x.act(0), water[h]);
            Checks.due("choke", Checks.told(x, 5), h + 1);
        }
        Checks.due("a choked hour", x.act(0), 69);
        Checks.due("choke goes on", Checks.told(x, 5), 6);
        Checks.due("a choked racing hour", x.act(1), 69);
        Checks.due("choke by 2", Checks.told(x, 5), 8);
        Checks.due("cleared", x.act(6), 72);
        Checks.due("no choke", Checks.told(x, 5), 0);
        Checks.due("pumped again", x.act(1), 66);
        Checks.due("choke anew", Checks.told(x, 5), 2);
        x.act(9);
        x.act(8);
        Checks.due("no other act chokes", Checks.told(x, 5), 2);
    }

    private static void otherActs() {
        PumpSpells x = Checks.launch("w505740 g9");
        x.act(0);
        Checks.due("WATER", Checks.told(x, 0), 51);
        Checks.due("the sail: leaks as ahead of it", x.act(8), 58);
        Checks.due("behind it half", x.act(9), 61);
        Checks.due("first cargo", x.act(7), 64);
        Checks.due("second cargo: as ahead of it", x.act(7), 67);
        Checks.due("behind it less", x.act(9), 70);
        Checks.due("leaks", Checks.told(x, 1), 3);
        x.act(7);
        x.act(7);
        Checks.due("leaks by four cargoes less", Checks.told(x, 1), 3);
        Checks.due("strength rested", Checks.ofGang(x, 0, 2), 9);
    }

    private static void theEnds() {
        PumpSpells x = Checks.launch("w901003 g9");
        Checks.due("94", x.act(9), 94);
        Checks.due("98", x.act(9), 98);
        Checks.due("not SUNK", Checks.told(x, 8), 0);
        Checks.due("102", x.act(9), 102);
        Checks.due("SUNK at the last hour", Checks.told(x, 8), 1);
        Checks.dueRefused("no hour behind SUNK", x, () -> x.act(9), STATE);
        PumpSpells y = Checks.launch("w953002 g9");
        Checks.due("95 and 6 less 6", y.act(0), 95);
        Checks.due("95 and 6 less 6 again", y.act(0), 95);
        Checks.due("at LAND", Checks.told(y, 7), 0);
        Checks.due("not SUNK at LAND", Checks.told(y, 8), 0);
        Checks.dueRefused("no hour behind LAND", y, () -> y.act(0), STATE);
        PumpSpells z = Checks.launch("w953009 g9");
        Checks.due("101 is SUNK", z.act(9), 101);
        Checks.due("what it would leak", Checks.told(z, 1), 7);
        PumpSpells v = Checks.launch("w933009 g9");
        Checks.due("99 is not SUNK", v.act(9), 99);
        Checks.due("acts can be", v.can(), 0b1101000001);
        Checks.due("forty hours", fortyHours(), 40);
    }

    private static int fortyHours() {
        PumpSpells x = Checks.launch("w001040 s9 c9");
        for (int h = 0; h < 40; h++) {
            x.act(h % 2 == 0 ? 6 : h / 2 % 2);
        }
        Checks.dueRefused("the forty-first", x, () -> x.act(9), STATE);
        Checks.due("the last one undone", x.undo(39), 1);
        Checks.due("hours", Checks.told(x, 6), 39);
        x.act(9);
        Checks.due("undone", x.undo(0), 40);
        Checks.due("WATER at first", Checks.told(x, 0), 0);
        for (int h = 0; h < 40; h++) {
            x.act(9);
        }
        return Checks.told(x, 6);
    }

    private static void actRefused() {
        PumpSpells x = Checks.launch("w305102 g6 r9");
        Checks.dueRefused("act(-1)", x, () -> x.act(-1), BAD);
        Checks.dueRefused("act(10)", x, () -> x.act(10), BAD);
        Checks.dueRefused("act(2)", x, () -> x.act(2), STATE);
        Checks.dueRefused("act(5)", x, () -> x.act(5), STATE);
        x.act(7);
        Checks.dueRefused("act(7) without cargo", x, () -> x.act(7), STATE);
        PumpSpells y = Checks.launch("w305105 g6");
        y.act(8);
        Checks.dueRefused("act(8) again", y, () -> y.act(8), STATE);
    }

    private static void undo() {
        PumpSpells x = Checks.launch(Checks.ALL_KINDS);
        int[] acts = {1, 7, 8, 4, 6, 1, 9, 2};
        long[] digests = new long[acts.length + 1];
        for (int h = 0; h < acts.length; h++) {
            digests[h] = x.digest();
            x.act(acts[h]);
        }
        digests[acts.length] = x.digest();
        Checks.due("undo none", x.undo(8), 0);
        Checks.due("digest", x.digest(), digests[8]);
        Checks.due("undo one", x.undo(7), 1);
        Checks.due("digest of 7", x.digest(), digests[7]);
        Checks.due("undo three", x.undo(4), 3);
        Checks.due("digest of 4", x.digest(), digests[4]);
        Checks.dueRefused("undo(5)", x, () -> x.undo(5), BAD);
        Checks.dueRefused("undo(-1)", x, () -> x.undo(-1), BAD);
        Checks.dueRefused("undo(MAX)", x, () -> x.undo(Integer.MAX_VALUE), BAD);
        for (int h = 4; h < acts.length; h++) {
            x.act(acts[h]);
        }
        Checks.due("done again", x.digest(), digests[8]);
        Checks.due("undo all", x.undo(0), 8);
        Checks.due("digest of 0", x.digest(), digests[0]);
        PumpSpells z = Checks.launch("w953009 g9");
        z.act(9);
        Checks.due("SUNK, undone", z.undo(0), 1);
        Checks.due("afloat again", Checks.told(z, 8), 0);
    }

    private static void undoAndForces() {
        PumpSpells x = Checks.launch(Checks.ALL_KINDS);
        x.act(0);
        x.act(0);
        Checks.due("force(0, 3)", x.force(0, 3), 6);
        Checks.due("force(1, 5)", x.force(1, 5), 9);
        Checks.due("undo(1)", x.undo(1), 1);
        Checks.due("FORCE stays", Checks.ofGang(x, 0, 1), 3);
        Checks.due("STRENGTH was 4, no more than 3", Checks.ofGang(x, 0, 2), 3);
        Checks.due("STRENGTH was 9, no more than 5", Checks.ofGang(x, 1, 2), 5);
        Checks.due("force(0, 9)", x.force(0, 9), 3);
        Checks.due("undo(0)", x.undo(0), 1);
        Checks.due("FORCE stays 9", Checks.ofGang(x, 0, 1), 9);
        Checks.due("STRENGTH was 6", Checks.ofGang(x, 0, 2), 6);
    }

    private static void keepAndOn() {
        PumpSpells x = Checks.launch(Checks.ALL_KINDS);
        Checks.dueFinding("on(2)", x, () -> x.on(2), NOTHING);
        x.act(1);
        x.act(8);
        Checks.due("keep(2)", x.keep(2), 2);
        Checks.due("count(8)", x.count(8), 1);
        long digest = x.digest();
        Checks.due("force(1, 2)", x.force(1, 2), 9);
        x.act(7);
        x.act(4);
        Checks.due("keep(0)", x.keep(0), 4);
        Checks.due("undo(0)", x.undo(0), 4);
        Checks.due("on(2)", x.on(2), 2);
        Checks.due("FORCE too", Checks.ofGang(x, 1, 1), 9);
        Checks.due("keep(0) over another", x.keep(0), 2);
        Checks.due("count(8) of two", x.count(8), 2);
        Checks.due("its hours can be undone", x.undo(1), 1);
        Checks.due("WATER of hour 1", Checks.told(x, 0), 27);
        x.act(9);
        x.act(9);
        Checks.due("on(2) again", x.on(2), 2);
        Checks.due("undo(1) again", x.undo(1), 1);
        Checks.due("the sail is off", Checks.told(x, 4), 0);
        Checks.due("on(0)", x.on(0), 2);
        PumpSpells y = Checks.launch(Checks.ALL_KINDS);
        y.act(1);
        y.act(8);
        y.keep(2);
        Checks.due("digest as kept", y.digest(), digest);
        Checks.dueRefused("keep(-1)", x, () -> x.keep(-1), BAD);
        Checks.dueRefused("keep(3)", x, () -> x.keep(3), BAD);
        Checks.dueRefused("on(-1)", x, () -> x.on(-1), BAD);
        Checks.dueRefused("on(3)", x, () -> x.on(3), BAD);
        Checks.dueFinding("on(1)", x, () -> x.on(1), NOTHING);
        Checks.fill(x, 0, 5);
        Checks.due("on(0) leaves rows", x.on(0), 2);
        Checks.dueRow("a row behind on()", x, 0, 5);
        Checks.due("and findings", x.findings(1), 2);
    }

    /** The hours that are undone behind on() are those of the kept one. */
    private static void keptHours() {
        PumpSpells x = Checks.launch(Checks.ALL_KINDS);
        x.act(1);
        x.act(4);
        x.keep(1);
        x.undo(0);
        x.act(9);
        x.act(9);
        x.act(9);
        Checks.due("on(1)", x.on(1), 2);
        Checks.due("undo(1)", x.undo(1), 1);
        Checks.due("WATER of the kept one's hour", Checks.told(x, 0), 27);
        Checks.due("its STRENGTH", Checks.ofGang(x, 1, 2), 5);
        x.act(9);
        Checks.due("on(1) again", x.on(1), 2);
        Checks.due("undo(0)", x.undo(0), 2);
        Checks.due("WATER at first", Checks.told(x, 0), 30);
    }

    private static void withoutGangs() {
        PumpSpells x = new PumpSpells();
        Checks.dueRefused("tell(0)", x, () -> x.tell(0), STATE);
        Checks.dueRefused("tell(9)", x, () -> x.tell(9), BAD);
        Checks.dueRefused("can()", x, x::can, STATE);
        Checks.dueRefused("act(9)", x, () -> x.act(9), STATE);
        Checks.dueRefused("act(10)", x, () -> x.act(10), BAD);
        Checks.dueRefused("keep(0)", x, () -> x.keep(0), STATE);
        Checks.dueRefused("keep(3)", x, () -> x.keep(3), BAD);
        Checks.dueRefused("undo(1)", x, () -> x.undo(1), BAD);
        Checks.due("undo(0)", x.undo(0), 0);
        Checks.dueFinding("on(0)", x, () -> x.on(0), NOTHING);
    }
}
