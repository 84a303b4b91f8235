import java.util.Arrays;

/** What 'Terms' says of ROWS, and promises 1 to 7: each bound at its number, one below it, one above it. */
public final class RowsEdgesTest {
    private static final int BAD = PumpSpells.BAD, STATE = PumpSpells.STATE;
    private static final int NOTHING = 1, BEYOND = 2, NOUGHT = 4, SIZE = 5;
    private static final int MIN = Integer.MIN_VALUE, MAX = Integer.MAX_VALUE;
    private static final String[] CALLS = {
        "row", "lay", "at", "tear", "copy from", "copy to", "mean", "run", "best", "rota", "watch", "gains",
        "feigns", "kinds", "leaks",
    };

    public static void main(String[] args) {
        sixRows();
        missingAtFirst();
        newObject();
        rowOfNoughts();
        rowAnew();
        rowTooLong();
        rowBelowNone();
        layTellsWhatItWas();
        layAtTheEnds();
        layRefused();
        atTellsThePlace();
        atTheEnds();
        atRefused();
        tearMakesItMissing();
        tearRefused();
        copyFromOneOn();
        copyAsIfTakenAhead();
        copyOfNone();
        copySize();
        copyNothing();
        copyNotSoMany();
        copyOrder();
        meanIsCut();
        meanOfFarNumbers();
        meanRefused();
        Checks.end("RowsEdgesTest");
    }

    private static int[] times(int n, int v) {
        int[] all = new int[n];
        Arrays.fill(all, v);
        return all;
    }

    // ---- Terms

    private static int byRow(PumpSpells x, int call, int r) {
        switch (call) {
            case 0: return x.row(r, 1);
            case 1: return x.lay(r, 0, 1);
            case 2: return x.at(r, 0);
            case 3: return x.tear(r);
            case 4: return x.copy(r, 0, 1, 0, 1);
            case 5: return x.copy(1, 0, r, 0, 1);
            case 6: return x.mean(r);
            case 7: return x.run(r);
            case 8: return x.best(1, r);
            case 9: return x.rota(r);
            case 10: return x.watch(1, r);
            case 11: return x.gains(r);
            case 12: return x.feigns(r);
            case 13: return x.kinds(0, r);
            default: return x.leaks(r);
        }
    }

    private static void sixRows() {
        Doc.terms("ROWS 0 .. 5 are rows of 0 to 40 ints");
        for (int c = 0; c < CALLS.length; c++) {
            int call = c;
            PumpSpells x = Checks.launch("w305314 g6");
            for (int r = 0; r < 6; r++) {
                Checks.fill(x, r, 9, 36);
            }
            x.lay(0, 1, 9);
            x.lay(5, 1, 9);
            Checks.dueRange(CALLS[c], x, r -> byRow(x, call, r), 0, 5);
            Checks.due(CALLS[c] + ": no FINDING of ROWS that are there", Checks.allFindings(x), 0);
        }
    }

    private static void missingAtFirst() {
        Doc.terms("or missing (at first)");
        for (int c = 1; c < CALLS.length; c++) {
            if (c == 8 || c == 10) {
                continue;
            }
            int call = c;
            PumpSpells x = Checks.launch("w305314 g6");
            if (c == 4 || c == 5) {
                Checks.fill(x, 1, 9, 36);
            }
            Checks.dueFinding(CALLS[c] + " of ROW 0", x, () -> byRow(x, call, 0), NOTHING);
            Checks.dueFinding(CALLS[c] + " of ROW 5", x, () -> byRow(x, call, 5), NOTHING);
        }
    }

    // ---- 1 a new object

    private static void newObject() {
        Doc.promise(1, "No ROWS, TEXTS, GANGS.");
        PumpSpells x = new PumpSpells();
        for (int what = 0; what <= 8; what++) {
            Checks.due("count(" + what + ")", x.count(what), 0);
        }
        for (int r = 0; r <= 5; r++) {
            int row = r;
            Checks.dueFinding("at(" + r + ", 0)", x, () -> x.at(row, 0), NOTHING);
        }
        PumpSpells y = new PumpSpells();
        for (int t = 0; t <= 3; t++) {
            int text = t;
            Checks.dueFinding("put(" + t + ", 0, 0)", y, () -> y.put(text, 0, 0), NOTHING);
            Checks.dueFinding("ship(" + t + ")", y, () -> y.ship(text), NOTHING);
        }
        for (int k = 0; k <= 2; k++) {
            int place = k;
            Checks.dueFinding("on(" + k + ")", y, () -> y.on(place), NOTHING);
        }
        Checks.dueRefused("gang(0, 0)", y, () -> y.gang(0, 0), BAD);
        Checks.dueRefused("can()", y, y::can, STATE);
        Checks.dueRefused("act(9)", y, () -> y.act(9), STATE);
    }

    // ---- 2 row

    private static void rowOfNoughts() {
        Doc.promise(2, "A ROW is there with n ints 0: n.");
        for (int n : new int[] {0, 1, 2, 39, 40}) {
            PumpSpells x = new PumpSpells();
            Checks.due("row(0, " + n + ")", x.row(0, n), n);
            Checks.due("count(6)", x.count(6), 1);
            Checks.dueRow("row(0, " + n + ")", x, 0, times(n, 0));
        }
    }

    private static void rowAnew() {
        Doc.promise(2, "A ROW is there with n ints 0: n.");
        for (int n : new int[] {0, 1, 39, 40}) {
            PumpSpells x = new PumpSpells();
            Checks.fill(x, 5, times(40, 7));
            Checks.fill(x, 4, 8);
            Checks.due("row(5, 1) anew", x.row(5, 1), 1);
            Checks.due("row(5, " + n + ") anew", x.row(5, n), n);
            Checks.dueRow("anew", x, 5, times(n, 0));
            Checks.dueRow("the ROW beside it", x, 4, 8);
            Checks.due("count(6)", x.count(6), 2);
        }
    }

    private static void rowTooLong() {
        Doc.promise(2, "BAD: also n above 40");
        PumpSpells x = new PumpSpells();
        Checks.fill(x, 3, 1, 2);
        Checks.due("row(2, 39)", x.row(2, 39), 39);
        Checks.due("row(2, 40)", x.row(2, 40), 40);
        Checks.dueRefused("row(3, 41)", x, () -> x.row(3, 41), BAD);
        Checks.dueRefused("row(3, 42)", x, () -> x.row(3, 42), BAD);
        Checks.dueRefused("row(3, MAX)", x, () -> x.row(3, MAX), BAD);
        Checks.dueRefused("row(1, 41) of a missing one", x, () -> x.row(1, 41), BAD);
        Checks.dueRow("the ROW as it was", x, 3, 1, 2);
    }

    private static void rowBelowNone() {
        Doc.promise(2, "SIZE: below 0.");
        PumpSpells x = new PumpSpells();
        Checks.fill(x, 3, 1, 2);
        Checks.dueFinding("row(3, -1)", x, () -> x.row(3, -1), SIZE);
        Checks.dueFinding("row(3, -2)", x, () -> x.row(3, -2), SIZE);
        Checks.dueFinding("row(3, MIN)", x, () -> x.row(3, MIN), SIZE);
        Checks.dueFinding("row(1, -1) of a missing one", x, () -> x.row(1, -1), SIZE);
        Checks.dueRow("the ROW as it was", x, 3, 1, 2);
        Checks.due("row(3, 0)", x.row(3, 0), 0);
        Checks.dueRefused("row(-1, -1): BAD ahead of SIZE", x, () -> x.row(-1, -1), BAD);
        Checks.dueRefused("row(6, -1): BAD ahead of SIZE", x, () -> x.row(6, -1), BAD);
    }

    // ---- 3 lay

    private static void layTellsWhatItWas() {
        Doc.promise(3, "Place i of a ROW is v: what it was, told by asked(): 1.");
        PumpSpells x = new PumpSpells();
        x.row(2, 3);
        Checks.dueTold("lay(2, 1, MIN)", x, x.lay(2, 1, MIN), 0);
        Checks.dueTold("lay(2, 1, MAX)", x, x.lay(2, 1, MAX), MIN);
        Checks.dueTold("lay(2, 1, -1)", x, x.lay(2, 1, -1), MAX);
        Checks.dueTold("lay(2, 1, -1) again", x, x.lay(2, 1, -1), -1);
        Checks.dueRow("only that place", x, 2, 0, -1, 0);
    }

    private static void layAtTheEnds() {
        Doc.promise(3, "BAD; NOTHING; BEYOND.");
        for (int n : new int[] {1, 2, 39, 40}) {
            PumpSpells x = new PumpSpells();
            x.row(0, n);
            Checks.dueTold("lay at the first place of " + n, x, x.lay(0, 0, 5), 0);
            Checks.dueTold("lay at the last place of " + n, x, x.lay(0, n - 1, 6), n == 1 ? 5 : 0);
            for (int i : new int[] {-1, n, n + 1, MIN, MAX}) {
                Checks.dueFinding("lay at " + i + " of " + n, x, () -> x.lay(0, i, 9), BEYOND);
            }
        }
        PumpSpells x = new PumpSpells();
        x.row(0, 0);
        for (int i : new int[] {-1, 0, 1}) {
            Checks.dueFinding("lay at " + i + " of none", x, () -> x.lay(0, i, 9), BEYOND);
        }
    }

    private static void layRefused() {
        Doc.promise(3, "BAD; NOTHING; BEYOND.");
        PumpSpells x = new PumpSpells();
        x.row(1, 2);
        Checks.dueRefused("BAD ahead of BEYOND", x, () -> x.lay(-1, 9, 1), BAD);
        Checks.dueRefused("BAD ahead of NOTHING", x, () -> x.lay(6, 0, 1), BAD);
        Checks.dueFinding("NOTHING ahead of BEYOND", x, () -> x.lay(0, -1, 1), NOTHING);
        Checks.dueFinding("NOTHING", x, () -> x.lay(5, 0, 1), NOTHING);
        x.tear(1);
        Checks.dueFinding("NOTHING behind tear()", x, () -> x.lay(1, 0, 1), NOTHING);
    }

    // ---- 4 at

    private static void atTellsThePlace() {
        Doc.promise(4, "Place i of a ROW, told by asked(): 1.");
        PumpSpells x = new PumpSpells();
        Checks.fill(x, 4, MIN, 0, MAX);
        Checks.dueTold("at(4, 0)", x, x.at(4, 0), MIN);
        Checks.dueTold("at(4, 1)", x, x.at(4, 1), 0);
        Checks.dueTold("at(4, 2)", x, x.at(4, 2), MAX);
    }

    private static void atTheEnds() {
        Doc.promise(4, "BAD; NOTHING; BEYOND.");
        for (int n : new int[] {1, 2, 39, 40}) {
            PumpSpells x = new PumpSpells();
            x.row(0, n);
            x.lay(0, n - 1, 6);
            Checks.dueTold("at the first place of " + n, x, x.at(0, 0), n == 1 ? 6 : 0);
            Checks.dueTold("at the last place of " + n, x, x.at(0, n - 1), 6);
            for (int i : new int[] {-1, n, n + 1, MIN, MAX}) {
                Checks.dueFinding("at " + i + " of " + n, x, () -> x.at(0, i), BEYOND);
            }
        }
        PumpSpells x = new PumpSpells();
        x.row(0, 0);
        for (int i : new int[] {-1, 0, 1}) {
            Checks.dueFinding("at " + i + " of none", x, () -> x.at(0, i), BEYOND);
        }
        Checks.fill(x, 1, 1, 2, 3);
        x.row(1, 1);
        Checks.dueFinding("a place there was", x, () -> x.at(1, 1), BEYOND);
    }

    private static void atRefused() {
        Doc.promise(4, "BAD; NOTHING; BEYOND.");
        PumpSpells x = new PumpSpells();
        x.row(1, 2);
        Checks.dueRefused("BAD ahead of BEYOND", x, () -> x.at(-1, 9), BAD);
        Checks.dueRefused("BAD ahead of NOTHING", x, () -> x.at(6, 0), BAD);
        Checks.dueFinding("NOTHING ahead of BEYOND", x, () -> x.at(0, -1), NOTHING);
        x.tear(1);
        Checks.dueFinding("NOTHING behind tear()", x, () -> x.at(1, 0), NOTHING);
    }

    // ---- 5 tear

    private static void tearMakesItMissing() {
        Doc.promise(5, "A ROW is missing: 1.");
        PumpSpells x = new PumpSpells();
        x.row(0, 0);
        x.row(5, 40);
        Checks.fill(x, 4, 3);
        Checks.due("tear of an empty one", x.tear(0), 1);
        Checks.due("count(6)", x.count(6), 2);
        Checks.due("tear of a full one", x.tear(5), 1);
        Checks.due("count(6)", x.count(6), 1);
        Checks.dueFinding("at(0, 0)", x, () -> x.at(0, 0), NOTHING);
        Checks.dueFinding("at(5, 39)", x, () -> x.at(5, 39), NOTHING);
        Checks.dueRow("the ROW beside it", x, 4, 3);
        Checks.due("row(5, 2)", x.row(5, 2), 2);
        Checks.dueRow("there again", x, 5, 0, 0);
    }

    private static void tearRefused() {
        Doc.promise(5, "BAD; NOTHING.");
        PumpSpells x = new PumpSpells();
        Checks.dueFinding("tear of none", x, () -> x.tear(0), NOTHING);
        x.row(0, 1);
        Checks.due("tear", x.tear(0), 1);
        Checks.dueFinding("tear again", x, () -> x.tear(0), NOTHING);
        Checks.dueRefused("BAD ahead of NOTHING", x, () -> x.tear(-1), BAD);
        Checks.dueRefused("BAD ahead of NOTHING", x, () -> x.tear(6), BAD);
    }

    // ---- 6 copy

    private static PumpSpells twoRows() {
        PumpSpells x = new PumpSpells();
        Checks.fill(x, 0, 1, 2, 3, 4, 5);
        Checks.fill(x, 1, 6, 7, 8);
        return x;
    }

    private static void copyFromOneOn() {
        Doc.promise(6, "n places of a ROW, from one on, come to those of another one");
        PumpSpells x = twoRows();
        Checks.due("one", x.copy(0, 4, 1, 0, 1), 1);
        Checks.dueRow("one", x, 1, 5, 7, 8);
        Checks.due("to the last place", x.copy(0, 0, 1, 2, 1), 1);
        Checks.dueRow("to the last place", x, 1, 5, 7, 1);
        Checks.due("as many as there are", x.copy(1, 0, 0, 2, 3), 1);
        Checks.dueRow("as many as there are", x, 0, 1, 2, 5, 7, 1);
        Checks.dueRow("where they are from", x, 1, 5, 7, 1);
        PumpSpells y = new PumpSpells();
        Checks.fill(y, 0, times(40, 3));
        y.row(5, 40);
        Checks.due("forty", y.copy(0, 0, 5, 0, 40), 1);
        Checks.dueRow("forty", y, 5, times(40, 3));
    }

    private static void copyAsIfTakenAhead() {
        Doc.promise(6, "(perhaps itself) from one on, as if taken ahead: 1.");
        PumpSpells x = twoRows();
        Checks.due("one place up", x.copy(0, 0, 0, 1, 4), 1);
        Checks.dueRow("one place up", x, 0, 1, 1, 2, 3, 4);
        PumpSpells y = twoRows();
        Checks.due("one place down", y.copy(0, 1, 0, 0, 4), 1);
        Checks.dueRow("one place down", y, 0, 2, 3, 4, 5, 5);
        PumpSpells z = twoRows();
        Checks.due("all to themselves", z.copy(0, 0, 0, 0, 5), 1);
        Checks.dueRow("all to themselves", z, 0, 1, 2, 3, 4, 5);
        Checks.due("apart", z.copy(0, 3, 0, 0, 2), 1);
        Checks.dueRow("apart", z, 0, 4, 5, 3, 4, 5);
    }

    private static void copyOfNone() {
        Doc.promise(6, "n places of a ROW, from one on, come to those of another one");
        PumpSpells x = twoRows();
        long digest = x.digest();
        Checks.due("none from the first", x.copy(0, 0, 1, 0, 0), 1);
        Checks.due("none from the very ends", x.copy(0, 5, 1, 3, 0), 1);
        Checks.due("nothing is changed", x.digest(), digest);
        Checks.dueFinding("none from beyond the end", x, () -> x.copy(0, 6, 1, 0, 0), BEYOND);
        Checks.dueFinding("none to beyond the end", x, () -> x.copy(0, 0, 1, 4, 0), BEYOND);
        Checks.dueFinding("none from below", x, () -> x.copy(0, -1, 1, 0, 0), BEYOND);
        Checks.dueFinding("none to below", x, () -> x.copy(0, 0, 1, -1, 0), BEYOND);
        x.row(2, 0);
        Checks.due("none of an empty one", x.copy(2, 0, 2, 0, 0), 1);
        Checks.dueFinding("one of an empty one", x, () -> x.copy(2, 0, 0, 0, 1), BEYOND);
        Checks.dueFinding("one to an empty one", x, () -> x.copy(0, 0, 2, 0, 1), BEYOND);
    }

    private static void copySize() {
        Doc.promise(6, "BAD; SIZE: n below 0");
        PumpSpells x = twoRows();
        Checks.dueFinding("copy of -1", x, () -> x.copy(0, 0, 1, 0, -1), SIZE);
        Checks.dueFinding("copy of -2", x, () -> x.copy(0, 3, 0, 3, -2), SIZE);
        Checks.dueFinding("copy of MIN", x, () -> x.copy(0, 0, 1, 0, MIN), SIZE);
        Checks.due("copy of 0", x.copy(0, 0, 1, 0, 0), 1);
    }

    private static void copyNothing() {
        Doc.promise(6, "NOTHING: either");
        PumpSpells x = twoRows();
        Checks.dueFinding("from a missing one", x, () -> x.copy(2, 0, 0, 0, 1), NOTHING);
        Checks.dueFinding("to a missing one", x, () -> x.copy(0, 0, 2, 0, 1), NOTHING);
        Checks.dueFinding("both missing", x, () -> x.copy(2, 0, 3, 0, 1), NOTHING);
        Checks.dueFinding("none of a missing one", x, () -> x.copy(2, 0, 2, 0, 0), NOTHING);
    }

    private static void copyNotSoMany() {
        Doc.promise(6, "BEYOND: not so many there.");
        PumpSpells x = twoRows();
        Checks.due("two from place 3 of five", x.copy(0, 3, 1, 0, 2), 1);
        Checks.dueFinding("three from place 3 of five", x, () -> x.copy(0, 3, 1, 0, 3), BEYOND);
        Checks.due("two to place 1 of three", x.copy(0, 0, 1, 1, 2), 1);
        Checks.dueFinding("three to place 1 of three", x, () -> x.copy(0, 0, 1, 1, 3), BEYOND);
        Checks.dueFinding("one from place -1", x, () -> x.copy(0, -1, 1, 0, 1), BEYOND);
        Checks.dueFinding("one to place -1", x, () -> x.copy(0, 0, 1, -1, 1), BEYOND);
        Checks.dueFinding("one from the end", x, () -> x.copy(0, 5, 1, 0, 1), BEYOND);
        Checks.dueFinding("one to the end", x, () -> x.copy(0, 0, 1, 3, 1), BEYOND);
        Checks.dueFinding("six of five", x, () -> x.copy(0, 0, 0, 0, 6), BEYOND);
        Checks.dueFinding("41 of five", x, () -> x.copy(0, 0, 0, 0, 41), BEYOND);
        PumpSpells y = twoRows();
        // sums of these wrap around below 0
        Checks.dueFinding("MAX from place 1", y, () -> y.copy(0, 1, 1, 0, MAX), BEYOND);
        Checks.dueFinding("MAX to place 1", y, () -> y.copy(0, 0, 1, 1, MAX), BEYOND);
        Checks.dueFinding("one from place MAX", y, () -> y.copy(0, MAX, 1, 0, 1), BEYOND);
        Checks.dueFinding("one to place MAX", y, () -> y.copy(0, 0, 1, MAX, 1), BEYOND);
        Checks.dueFinding("one from place MIN", y, () -> y.copy(0, MIN, 1, 0, 1), BEYOND);
        Checks.dueFinding("one to place MIN", y, () -> y.copy(0, 0, 1, MIN, 1), BEYOND);
        Checks.dueFinding("MAX from place MIN", y, () -> y.copy(0, MIN, 1, 0, MAX), BEYOND);
    }

    private static void copyOrder() {
        Doc.promise(6, "BAD; SIZE: n below 0; NOTHING: either; BEYOND: not so many there.");
        PumpSpells x = twoRows();
        Checks.dueRefused("BAD ahead of SIZE", x, () -> x.copy(-1, 0, 0, 0, -1), BAD);
        Checks.dueRefused("BAD ahead of NOTHING", x, () -> x.copy(2, 0, 6, 0, 1), BAD);
        Checks.dueRefused("BAD ahead of BEYOND", x, () -> x.copy(6, 9, 0, 9, 9), BAD);
        Checks.dueFinding("SIZE ahead of NOTHING", x, () -> x.copy(2, 0, 0, 0, -1), SIZE);
        Checks.dueFinding("SIZE ahead of BEYOND", x, () -> x.copy(0, 9, 1, 9, -1), SIZE);
        Checks.dueFinding("NOTHING ahead of BEYOND, to", x, () -> x.copy(0, 9, 2, 0, 1), NOTHING);
        Checks.dueFinding("NOTHING ahead of BEYOND, from", x, () -> x.copy(2, 0, 0, 9, 1), NOTHING);
    }

    // ---- 7 mean

    private static void dueMean(int mean, int... values) {
        PumpSpells x = new PumpSpells();
        Checks.fill(x, 0, values);
        Checks.dueTold("mean of " + Arrays.toString(values), x, x.mean(0), mean);
    }

    private static void meanIsCut() {
        Doc.promise(7, "The mean of a ROW's ints, cut, told by asked(): 1.");
        dueMean(7, 7);
        dueMean(-7, -7);
        dueMean(0, 0, 1);
        dueMean(1, 1, 1);
        dueMean(1, 1, 2);
        dueMean(2, 2, 2);
        dueMean(0, 0, -1);
        dueMean(-1, -1, -1);
        dueMean(-1, -1, -2);
        dueMean(1, 1, 1, 3);
        dueMean(2, 1, 1, 4);
        dueMean(-1, -1, -1, -3);
        dueMean(-2, -1, -1, -4);
    }

    private static void meanOfFarNumbers() {
        Doc.promise(7, "The mean of a ROW's ints, cut, told by asked(): 1.");
        dueMean(MAX, MAX);
        dueMean(MIN, MIN);
        dueMean(MAX, MAX, MAX);
        dueMean(MIN, MIN, MIN);
        dueMean(0, MAX, MIN);
        dueMean(1073741824, MAX, 1);
        dueMean(MAX, times(40, MAX));
        dueMean(MIN, times(40, MIN));
    }

    private static void meanRefused() {
        Doc.promise(7, "BAD; NOTHING; NOUGHT.");
        PumpSpells x = new PumpSpells();
        Checks.dueFinding("mean of a missing one", x, () -> x.mean(0), NOTHING);
        x.row(0, 0);
        Checks.dueFinding("mean of none", x, () -> x.mean(0), NOUGHT);
        x.row(0, 1);
        Checks.dueTold("mean of one", x, x.mean(0), 0);
        Checks.dueRefused("BAD ahead of NOTHING", x, () -> x.mean(-1), BAD);
        Checks.dueRefused("BAD ahead of NOTHING", x, () -> x.mean(6), BAD);
    }
}
