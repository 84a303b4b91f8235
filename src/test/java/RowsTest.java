/** Promises 1 to 7. */
public final class RowsTest {
    private static final int BAD = PumpSpells.BAD;
    private static final int NOTHING = 1, BEYOND = 2, NOUGHT = 4, SIZE = 5;

    public static void main(String[] args) {
        newObject();
        row();
        layAndAt();
        tear();
        copy();
        mean();
        Checks.end("RowsTest");
    }

    private static void newObject() {
        PumpSpells x = new PumpSpells();
        for (int what = 0; what <= 8; what++) {
            Checks.due("count(" + what + ") of a new object", x.count(what), 0);
        }
        for (int r = 0; r < 6; r++) {
            Checks.due("at of a new object", x.at(r, 0), PumpSpells.FINDING);
        }
        for (int t = 0; t < 4; t++) {
            Checks.due("fault of a new object", x.fault(t), PumpSpells.FINDING);
        }
        Checks.due("findings(1)", x.findings(1), 10);
        Checks.due("tell of a new object", x.tell(0), PumpSpells.STATE);
        Checks.due("gang of a new object", x.gang(0, 0), BAD);
    }

    private static void row() {
        PumpSpells x = new PumpSpells();
        Checks.due("row(0, 0)", x.row(0, 0), 0);
        Checks.dueRow("an empty row", x, 0);
        Checks.due("row(5, 40)", x.row(5, 40), 40);
        Checks.dueRow("a whole row", x, 5, new int[40]);
        Checks.fill(x, 2, 7, 8, 9);
        Checks.due("row anew", x.row(2, 2), 2);
        Checks.dueRow("a row anew", x, 2, 0, 0);
        Checks.due("row anew, longer", x.row(2, 4), 4);
        Checks.dueRow("a longer row anew", x, 2, 0, 0, 0, 0);
        Checks.dueRefused("row(-1, 3)", x, () -> x.row(-1, 3), BAD);
        Checks.dueRefused("row(6, 3)", x, () -> x.row(6, 3), BAD);
        Checks.dueRefused("row(6, -3)", x, () -> x.row(6, -3), BAD);
        Checks.dueRefused("row(2, 41)", x, () -> x.row(2, 41), BAD);
        Checks.dueRefused("row(2, MAX)", x, () -> x.row(2, Integer.MAX_VALUE), BAD);
        Checks.dueFinding("row(2, -1)", x, () -> x.row(2, -1), SIZE);
        Checks.dueFinding("row(2, MIN)", x, () -> x.row(2, Integer.MIN_VALUE), SIZE);
    }

    private static void layAndAt() {
        PumpSpells x = new PumpSpells();
        Checks.fill(x, 1, 11, -22, Integer.MIN_VALUE);
        Checks.dueRow("laid", x, 1, 11, -22, Integer.MIN_VALUE);
        Checks.dueTold("lay(1, 0, 5)", x, x.lay(1, 0, 5), 11);
        Checks.dueTold("lay(1, 2, MAX)", x, x.lay(1, 2, Integer.MAX_VALUE), Integer.MIN_VALUE);
        Checks.dueTold("at(1, 0)", x, x.at(1, 0), 5);
        Checks.dueTold("at(1, 2)", x, x.at(1, 2), Integer.MAX_VALUE);
        Checks.dueRefused("lay(-1, 0, 0)", x, () -> x.lay(-1, 0, 0), BAD);
        Checks.dueRefused("lay(6, 0, 0)", x, () -> x.lay(6, 0, 0), BAD);
        Checks.dueRefused("at(-1, 0)", x, () -> x.at(-1, 0), BAD);
        Checks.dueRefused("at(6, -1)", x, () -> x.at(6, -1), BAD);
        Checks.dueFinding("lay(0, 0, 1)", x, () -> x.lay(0, 0, 1), NOTHING);
        Checks.dueFinding("lay(0, -1, 1)", x, () -> x.lay(0, -1, 1), NOTHING);
        Checks.dueFinding("at(0, 99)", x, () -> x.at(0, 99), NOTHING);
        Checks.dueFinding("lay(1, 3, 1)", x, () -> x.lay(1, 3, 1), BEYOND);
        Checks.dueFinding("lay(1, -1, 1)", x, () -> x.lay(1, -1, 1), BEYOND);
        Checks.dueFinding("at(1, 3)", x, () -> x.at(1, 3), BEYOND);
        Checks.dueFinding("at(1, MIN)", x, () -> x.at(1, Integer.MIN_VALUE), BEYOND);
        Checks.dueFinding("at(1, MAX)", x, () -> x.at(1, Integer.MAX_VALUE), BEYOND);
    }

    private static void tear() {
        PumpSpells x = new PumpSpells();
        Checks.dueFinding("tear(4) ahead", x, () -> x.tear(4), NOTHING);
        Checks.fill(x, 4, 1, 2);
        Checks.due("count(6)", x.count(6), 1);
        Checks.due("tear(4)", x.tear(4), 1);
        Checks.due("count(6) behind", x.count(6), 0);
        Checks.dueFinding("at(4, 0)", x, () -> x.at(4, 0), NOTHING);
        Checks.dueFinding("tear(4) again", x, () -> x.tear(4), NOTHING);
        Checks.dueRefused("tear(-1)", x, () -> x.tear(-1), BAD);
        Checks.dueRefused("tear(6)", x, () -> x.tear(6), BAD);
        Checks.due("row(4, 2)", x.row(4, 2), 2);
        Checks.dueRow("behind a tear", x, 4, 0, 0);
    }

    private static void copy() {
        PumpSpells x = new PumpSpells();
        Checks.fill(x, 0, 1, 2, 3, 4, 5);
        Checks.fill(x, 1, 6, 7, 8);
        Checks.due("copy to another", x.copy(0, 1, 1, 0, 2), 1);
        Checks.dueRow("copied", x, 1, 2, 3, 8);
        Checks.dueRow("its source", x, 0, 1, 2, 3, 4, 5);
        Checks.due("copy up within", x.copy(0, 0, 0, 1, 4), 1);
        Checks.dueRow("up within", x, 0, 1, 1, 2, 3, 4);
        Checks.due("copy down within", x.copy(0, 2, 0, 0, 3), 1);
        Checks.dueRow("down within", x, 0, 2, 3, 4, 3, 4);
        Checks.due("copy of none at the ends", x.copy(0, 5, 1, 3, 0), 1);
        Checks.due("copy of all", x.copy(1, 0, 0, 2, 3), 1);
        Checks.dueRow("all", x, 0, 2, 3, 2, 3, 8);
        Checks.dueRefused("copy(-1 ..)", x, () -> x.copy(-1, 0, 0, 0, -1), BAD);
        Checks.dueRefused("copy(6 ..)", x, () -> x.copy(6, 0, 0, 0, 1), BAD);
        Checks.dueRefused("copy(.. -1 ..)", x, () -> x.copy(0, 0, -1, 0, 1), BAD);
        Checks.dueRefused("copy(.. 6 ..)", x, () -> x.copy(0, 0, 6, 0, 1), BAD);
        Checks.dueFinding("copy of -1", x, () -> x.copy(2, 9, 3, 9, -1), SIZE);
        Checks.dueFinding("copy from none", x, () -> x.copy(2, 0, 0, 9, 1), NOTHING);
        Checks.dueFinding("copy to none", x, () -> x.copy(0, 9, 2, 0, 1), NOTHING);
        Checks.dueFinding("copy from beyond", x, () -> x.copy(0, 3, 1, 0, 3), BEYOND);
        Checks.dueFinding("copy to beyond", x, () -> x.copy(0, 0, 1, 1, 3), BEYOND);
        Checks.dueFinding("copy from -1", x, () -> x.copy(0, -1, 1, 0, 1), BEYOND);
        Checks.dueFinding("copy to -1", x, () -> x.copy(0, 0, 1, -1, 1), BEYOND);
        Checks.dueFinding("copy of none beyond", x, () -> x.copy(0, 6, 1, 0, 0), BEYOND);
        Checks.dueFinding("copy of MAX", x, () -> x.copy(0, 1, 1, 1, Integer.MAX_VALUE), BEYOND);
        Checks.dueFinding("copy from MAX", x, () -> x.copy(0, Integer.MAX_VALUE, 1, 0, 1), BEYOND);
    }

    private static void mean() {
        PumpSpells x = new PumpSpells();
        Checks.fill(x, 3, 1, 2, 5);
        Checks.dueTold("mean of 1 2 5", x, x.mean(3), 2);
        Checks.fill(x, 3, -1, -2, -5);
        Checks.dueTold("mean below 0 is cut", x, x.mean(3), -2);
        int most = Integer.MAX_VALUE;
        Checks.fill(x, 3, most, most, most);
        Checks.dueTold("mean of large ones", x, x.mean(3), most);
        int least = Integer.MIN_VALUE;
        Checks.fill(x, 3, least, least);
        Checks.dueTold("mean of least ones", x, x.mean(3), least);
        Checks.due("row(3, 0)", x.row(3, 0), 0);
        Checks.dueFinding("mean of none", x, () -> x.mean(3), NOUGHT);
        Checks.dueFinding("mean of nothing", x, () -> x.mean(2), NOTHING);
        Checks.dueRefused("mean(-1)", x, () -> x.mean(-1), BAD);
        Checks.dueRefused("mean(6)", x, () -> x.mean(6), BAD);
    }
}
