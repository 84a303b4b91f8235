/** Promises 8 to 11. */
public final class TextsTest {
    private static final int BAD = PumpSpells.BAD, NONE = PumpSpells.NONE, STATE = PumpSpells.STATE;
    private static final int NOTHING = 1, BEYOND = 2, SIZE = 5;

    public static void main(String[] args) {
        text();
        put();
        faultless();
        faults();
        faultRefused();
        ship();
        shipAnew();
        shipRefused();
        Checks.end("TextsTest");
    }

    private static void text() {
        PumpSpells x = new PumpSpells();
        Checks.due("text(0, 0)", x.text(0, 0), 0);
        Checks.due("text(3, 60)", x.text(3, 60), 60);
        Checks.due("put at the end", x.put(3, 59, 65), 1032);
        Checks.due("text anew", x.text(3, 60), 60);
        for (int i = 0; i < 60; i++) {
            Checks.due("a blank", x.put(3, i, 32), 1032);
        }
        Checks.due("count(7)", x.count(7), 2);
        Checks.dueRefused("text(-1, 1)", x, () -> x.text(-1, 1), BAD);
        Checks.dueRefused("text(4, -1)", x, () -> x.text(4, -1), BAD);
        Checks.dueRefused("text(0, 61)", x, () -> x.text(0, 61), BAD);
        Checks.dueRefused("text(0, MAX)", x, () -> x.text(0, Integer.MAX_VALUE), BAD);
        Checks.dueFinding("text(0, -1)", x, () -> x.text(0, -1), SIZE);
        Checks.dueFinding("text(1, MIN)", x, () -> x.text(1, Integer.MIN_VALUE), SIZE);
    }

    private static void put() {
        PumpSpells x = new PumpSpells();
        Checks.due("text(1, 2)", x.text(1, 2), 2);
        Checks.due("put 200", x.put(1, 0, 200), 1032);
        Checks.due("put 300 behind 200", x.put(1, 0, 300), 944);
        Checks.due("put -128 behind 300", x.put(1, 0, -128), 1044);
        Checks.due("put 127 behind -128", x.put(1, 0, 127), 872);
        Checks.due("put MIN behind 127", x.put(1, 0, Integer.MIN_VALUE), 1127);
        Checks.due("put 0 behind MIN", x.put(1, 0, 0), 1000);
        Checks.due("the other place", x.put(1, 1, 5), 1032);
        Checks.dueRefused("put(-1, 0, 0)", x, () -> x.put(-1, 0, 0), BAD);
        Checks.dueRefused("put(4, 0, 0)", x, () -> x.put(4, 0, 0), BAD);
        Checks.dueFinding("put(0, 0, 0)", x, () -> x.put(0, 0, 0), NOTHING);
        Checks.dueFinding("put(0, -1, 0)", x, () -> x.put(0, -1, 0), NOTHING);
        Checks.dueFinding("put(1, 2, 0)", x, () -> x.put(1, 2, 0), BEYOND);
        Checks.dueFinding("put(1, -1, 0)", x, () -> x.put(1, -1, 0), BEYOND);
        Checks.dueFinding("put(1, MAX, 0)", x, () -> x.put(1, Integer.MAX_VALUE, 0), BEYOND);
    }

    private static void dueFault(String text, int fault) {
        PumpSpells x = new PumpSpells();
        Checks.write(x, 1, text);
        Checks.due("fault of '" + text + "'", x.fault(1), fault);
        if (fault != NONE) {
            Checks.dueRefused("ship of '" + text + "'", x, () -> x.ship(1), STATE);
        }
    }

    private static void faultless() {
        dueFault("w001001g1", NONE);
        dueFault("w999940c9", NONE);
        dueFault("w305310g5", NONE);
        dueFault("   w305314   g6r9  s4 f5l7 c3   ", NONE);
        dueFault("w305314g6r9s4f5l7c3", NONE);
        dueFault("w305314g1g1g1g1g1g1 ", NONE);
    }

    private static void faults() {
        dueFault("", 0);
        dueFault("     ", 5);
        dueFault("g6", 0);
        dueFault("  W305314g6", 2);
        dueFault(" w", 2);
        dueFault("w3", 2);
        dueFault("wx05314g6", 1);
        dueFault("w3x5314g6", 2);
        dueFault("w300314g6", 3);
        dueFault("w30/314g6", 3);
        dueFault("w305:14g6", 4);
        dueFault("w:05314g6", 1);
        dueFault("w3:5314g6", 2);
        dueFault("w30:314g6", 3);
        dueFault("w3053:4g6", 5);
        dueFault("w30531:g6", 6);
        dueFault("w305314g:", 8);
        dueFault("w3053", 5);
        dueFault("w305354g6", 5);
        dueFault("w305399g6", 5);
        dueFault("w305341g6", 6);
        dueFault("w305349g6", 6);
        dueFault("w305300g6", 6);
        dueFault("w30531 g6", 6);
        dueFault("w 305314g6", 1);
        dueFault("w30 5314g6", 3);
        dueFault("w305314", 7);
        dueFault("w305314   ", 10);
        dueFault("w305314 g", 9);
        dueFault("w305314 g0", 9);
        dueFault("w305314 g 6", 9);
        dueFault("w305314 x6", 8);
        dueFault("w305314 G6", 8);
        dueFault("w305314 g66", 10);
        dueFault("w305314 g6 w305314", 11);
        dueFault("w305314g1g2g3g4g5g6g7", 19);
        dueFault("w305314g1g2g3g4g5g6  c", 21);
        dueFault("w305314g1g2g3g4g5g6 7", 20);
        dueFault("w305314g1g2g3g4g5 g", 19);
        PumpSpells x = new PumpSpells();
        Checks.write(x, 0, "w305314g6");
        Checks.due("put -96 (a blank's byte less 128)", x.put(0, 7, 32 - 128), 1103);
        Checks.due("fault at it", x.fault(0), 7);
        Checks.due("a byte of 0", x.put(0, 7, 0), 904);
        Checks.due("fault at 0", x.fault(0), 7);
        Checks.due("g, cut to a byte", x.put(0, 7, 103 + 256), 1000);
        Checks.due("no fault", x.fault(0), NONE);
    }

    private static void faultRefused() {
        PumpSpells x = new PumpSpells();
        Checks.dueRefused("fault(-1)", x, () -> x.fault(-1), BAD);
        Checks.dueRefused("fault(4)", x, () -> x.fault(4), BAD);
        Checks.dueFinding("fault(2)", x, () -> x.fault(2), NOTHING);
    }

    private static void ship() {
        PumpSpells x = new PumpSpells();
        Checks.write(x, 2, " w071239 l9 c1s2  f3 ");
        Checks.due("ship(2)", x.ship(2), 4);
        int[] tells = {7, 1, 2, 0, 0, 0, 0, 39, 0};
        for (int what = 0; what <= 8; what++) {
            Checks.dueTold("tell(" + what + ")", x, x.tell(what), tells[what]);
        }
        int[] kinds = {4, 5, 2, 3};
        int[] forces = {9, 1, 2, 3};
        for (int i = 0; i < 4; i++) {
            Checks.due("kind of " + i, Checks.ofGang(x, i, 0), kinds[i]);
            Checks.due("force of " + i, Checks.ofGang(x, i, 1), forces[i]);
            Checks.due("strength of " + i, Checks.ofGang(x, i, 2), forces[i]);
        }
        Checks.due("no gang 4", x.gang(4, 0), BAD);
    }

    private static void shipAnew() {
        PumpSpells x = Checks.launch(Checks.ALL_KINDS);
        long fresh = x.digest();
        x.act(1);
        x.act(7);
        x.act(8);
        x.force(2, 1);
        x.keep(0);
        x.keep(2);
        Checks.due("count(8)", x.count(8), 2);
        Checks.due("ship anew", x.ship(3), 6);
        Checks.due("digest anew", x.digest(), fresh);
        Checks.due("kept ones are gone", x.count(8), 0);
        Checks.dueFinding("on(0)", x, () -> x.on(0), NOTHING);
        Checks.dueRefused("undo(1)", x, () -> x.undo(1), BAD);
        Checks.due("a later put changes no ship", x.put(3, 1, '9'), 1051);
        Checks.due("WATER", Checks.told(x, 0), 30);
        Checks.relaunch(x, "w901102s3");
        Checks.due("fewer gangs", x.count(0), 1);
        Checks.due("WATER of the new one", Checks.told(x, 0), 90);
        Checks.dueRefused("gang(1, 0)", x, () -> x.gang(1, 0), BAD);
    }

    private static void shipRefused() {
        PumpSpells x = Checks.launch(Checks.ALL_KINDS);
        x.act(0);
        x.keep(1);
        Checks.dueRefused("ship(-1)", x, () -> x.ship(-1), BAD);
        Checks.dueRefused("ship(4)", x, () -> x.ship(4), BAD);
        Checks.dueFinding("ship(0)", x, () -> x.ship(0), NOTHING);
        Checks.due("text(0, 9)", x.text(0, 9), 9);
        Checks.dueRefused("ship of blanks", x, () -> x.ship(0), STATE);
        Checks.due("still kept", x.on(1), 1);
    }
}
