import java.util.function.ToIntFunction;

/** What 'Terms' says of refusals, FINDINGS and sets, and 'What it is' of 512 calls. */
public final class TermsEdgesTest {
    private static final int BAD = PumpSpells.BAD, STATE = PumpSpells.STATE, FINDING = PumpSpells.FINDING;
    private static final int NOTHING = 1, BEYOND = 2, UNLIKE = 3, NOUGHT = 4, SIZE = 5;
    private static final int CALLS = 512;

    public static void main(String[] args) {
        numbersOfRefusals();
        badAheadOfState();
        badAheadOfFinding();
        stateAheadOfFinding();
        noneIsNoRefusal();
        refusedChangesNothing();
        nothing();
        beyond();
        unlike();
        nought();
        size();
        setsByBits();
        lastCallOf512();
        hoursIn512Calls();
        Checks.end("TermsEdgesTest");
    }

    private static PumpSpells behind(String text, int... acts) {
        PumpSpells x = Checks.launch(text);
        for (int a : acts) {
            x.act(a);
        }
        return x;
    }

    private static void dueAll(String what, PumpSpells x, int answer, ToIntFunction<PumpSpells>[] calls) {
        for (int c = 0; c < calls.length; c++) {
            ToIntFunction<PumpSpells> call = calls[c];
            Checks.dueRefused(what + ", call " + c, x, () -> call.applyAsInt(x), answer);
        }
    }

    @SafeVarargs
    private static ToIntFunction<PumpSpells>[] list(ToIntFunction<PumpSpells>... calls) {
        return calls;
    }

    // ---- refusals

    private static void numbersOfRefusals() {
        Doc.terms("BAD -1 (a number that is none, or not as told), FULL -2, STATE -4 (not now), SPENT -6 (more than told), "
            + "FINDING -3 (finding() tells which), unless a call says so otherwise. NONE -9.");
        Checks.due("BAD", PumpSpells.BAD, -1);
        Checks.due("FULL", PumpSpells.FULL, -2);
        Checks.due("FINDING", PumpSpells.FINDING, -3);
        Checks.due("STATE", PumpSpells.STATE, -4);
        Checks.due("SPENT", PumpSpells.SPENT, -6);
        Checks.due("NONE", PumpSpells.NONE, -9);
    }

    private static void badAheadOfState() {
        Doc.terms("Refused is, the first of these that fits, in this order: BAD -1");
        dueAll("without GANGS", new PumpSpells(), BAD, list(
            x -> x.tell(9), x -> x.act(10), x -> x.keep(3), x -> x.run(6), x -> x.best(5, 0), x -> x.best(0, 6),
            x -> x.afloat(5), x -> x.firsts(0), x -> x.rota(6), x -> x.watch(0, 0), x -> x.watch(1, 6)));
        dueAll("without GANGS", new PumpSpells(), BAD, list(
            x -> x.lasts(10), x -> x.inches(10, 0, 0), x -> x.inches(0, 0, 21), x -> x.lighten(10), x -> x.feigns(6),
            x -> x.leaks(6), x -> x.odds(0, 9, 0), x -> x.mid(0, 0, 13), x -> x.lots(21, 1), x -> x.lots(1, 0)));
        dueAll("when SUNK", behind("w961040 g6", 9), BAD, list(x -> x.act(-1), x -> x.act(10), x -> x.lots(0, 1)));
    }

    private static void badAheadOfFinding() {
        Doc.terms("Refused is, the first of these that fits, in this order: BAD -1");
        dueAll("BAD ahead of FINDINGS", Checks.launch("w305314 g6"), BAD, list(
            x -> x.row(6, -1), x -> x.lay(6, -1, 0), x -> x.at(-1, -1), x -> x.tear(6), x -> x.copy(6, -1, 0, -1, -1),
            x -> x.copy(0, -1, -1, -1, -1), x -> x.mean(-1), x -> x.text(4, -1), x -> x.put(4, -1, 0), x -> x.fault(-1)));
        dueAll("BAD ahead of FINDINGS", Checks.launch("w305314 g6"), BAD, list(
            x -> x.ship(4), x -> x.mark(0, 0), x -> x.mark(1, 1), x -> x.on(3), x -> x.run(-1), x -> x.rota(-1),
            x -> x.gains(-1), x -> x.feigns(-1), x -> x.kinds(1, 0), x -> x.kinds(0, 6), x -> x.leaks(-1)));
    }

    private static void stateAheadOfFinding() {
        Doc.terms("STATE -4 (not now), SPENT -6 (more than told), FINDING -3 (finding() tells which)");
        dueAll("without GANGS and ROWS", new PumpSpells(), STATE, list(
            x -> x.run(0), x -> x.rota(0), x -> x.feigns(0), x -> x.leaks(0)));
        PumpSpells y = new PumpSpells();
        Checks.fill(y, 0, 10);
        dueAll("without GANGS", y, STATE, list(x -> x.run(0), x -> x.rota(0), x -> x.feigns(0), x -> x.leaks(0)));
        Doc.terms("unless a call says so otherwise.");
        Checks.dueFinding("ship()", y, () -> y.ship(0), NOTHING);
    }

    private static void noneIsNoRefusal() {
        Doc.terms("NONE -9.");
        PumpSpells x = Checks.launch("w979002 g1");
        Checks.fill(x, 0, 9);
        Checks.due("fault", x.fault(3), PumpSpells.NONE);
        Checks.due("best", x.best(1, 0), PumpSpells.NONE);
        Checks.due("watch", x.watch(1, 0), PumpSpells.NONE);
        Checks.due("lighten", x.lighten(0), PumpSpells.NONE);
        Checks.due("rota", x.rota(0), PumpSpells.NONE);
        Checks.due("rota tells all the same", x.asked(), 1);
        Checks.due("no FINDING", x.finding(), 0);
    }

    private static int refuse(PumpSpells x, int n) {
        switch (n) {
            case 0: return x.row(0, 41);
            case 1: return x.row(0, -1);
            case 2: return x.lay(0, 2, 5);
            case 3: return x.at(1, 0);
            case 4: return x.tear(1);
            case 5: return x.copy(0, 0, 0, 1, 2);
            case 6: return x.mean(2);
            case 7: return x.text(0, 61);
            case 8: return x.text(0, -1);
            case 9: return x.put(0, 2, 5);
            case 10: return x.fault(1);
            case 11: return x.ship(0);
            case 12: return x.ship(1);
            case 13: return x.gang(6, 0);
            case 14: return x.mark(0, 1);
            case 15: return x.force(0, 10);
            case 16: return x.force(0, 0);
            case 17: return x.tell(9);
            case 18: return x.act(8);
            case 19: return x.act(10);
            default: return refuseMore(x, n);
        }
    }

    private static int refuseMore(PumpSpells x, int n) {
        switch (n) {
            case 20: return x.undo(5);
            case 21: return x.undo(-1);
            case 22: return x.keep(3);
            case 23: return x.on(2);
            case 24: return x.run(3);
            case 25: return x.best(5, 0);
            case 26: return x.best(1, 6);
            case 27: return x.afloat(5);
            case 28: return x.firsts(0);
            case 29: return x.rota(3);
            case 30: return x.watch(4, 0);
            case 31: return x.lasts(10);
            case 32: return x.inches(0, 0, 21);
            case 33: return x.lighten(10);
            case 34: return x.rest(6);
            case 35: return x.gains(1);
            case 36: return x.feigns(3);
            case 37: return x.kinds(0, 3);
            case 38: return x.leaks(3);
            case 39: return x.odds(0, 9, 0);
            case 40: return x.mid(0, 0, 13);
            case 41: return x.lots(0, 1);
            case 42: return x.lots(20, 0);
            case 43: return x.count(9);
            default: return x.findings(6);
        }
    }

    private static PumpSpells full() {
        PumpSpells x = behind(Checks.ALL_KINDS, 1, 8);
        x.keep(0);
        x.act(7);
        x.act(4);
        x.keep(1);
        x.force(2, 2);
        Checks.fill(x, 0, 3, 44);
        x.row(2, 0);
        Checks.fill(x, 3, 10, 44);
        Checks.write(x, 0, "wx");
        x.odds(0, 2, 5);
        x.tell(0);
        return x;
    }

    /** What can't be seen by digest() at once: HOURS that are undone, and kept SHIPS. */
    private static long[] later(PumpSpells x) {
        long[] all = new long[12];
        all[0] = x.digest();
        all[1] = x.asked();
        all[2] = x.upper();
        all[3] = x.lower();
        all[4] = x.undo(1);
        all[5] = x.digest();
        all[6] = x.on(0);
        all[7] = x.digest();
        x.undo(0);
        all[8] = x.digest();
        all[9] = x.on(1);
        x.undo(2);
        all[10] = x.digest();
        all[11] = x.at(0, 1);
        return all;
    }

    private static void refusedChangesNothing() {
        Doc.terms("What is refused changes nothing but finding(), findings().");
        long[] due = later(full());
        for (int n = 0; n <= 44; n++) {
            PumpSpells x = full();
            int finding = x.finding();
            int before = Checks.allFindings(x);
            int answer = refuse(x, n);
            boolean found = answer == FINDING;
            Checks.due("call " + n + " is refused", answer == BAD || answer == STATE || found ? 1 : 0, 1);
            Checks.due("call " + n + ": findings()", Checks.allFindings(x), before + (found ? 1 : 0));
            if (!found) {
                Checks.due("call " + n + ": finding()", x.finding(), finding);
            }
            long[] got = later(x);
            for (int i = 0; i < due.length; i++) {
                Checks.due("call " + n + ", later " + i, got[i], due[i]);
            }
        }
    }

    // ---- FINDINGS

    private static void dueFindings(PumpSpells x, int finding, ToIntFunction<PumpSpells>[] calls) {
        for (int c = 0; c < calls.length; c++) {
            ToIntFunction<PumpSpells> call = calls[c];
            Checks.dueFinding("FINDING " + finding + ", call " + c, x, () -> call.applyAsInt(x), finding);
        }
    }

    private static void nothing() {
        Doc.terms("FINDINGS: 1 NOTHING (a ROW, a TEXT, a kept SHIP that is missing)");
        PumpSpells y = Checks.launch("w305314 g6");
        dueFindings(y, NOTHING, list(
            x -> x.lay(0, 0, 0), x -> x.at(0, 0), x -> x.tear(0), x -> x.copy(0, 0, 0, 0, 0), x -> x.mean(0),
            x -> x.run(0), x -> x.rota(0), x -> x.gains(0), x -> x.feigns(0), x -> x.kinds(0, 0), x -> x.leaks(0)));
        PumpSpells z = Checks.launch("w305314 g6");
        dueFindings(z, NOTHING, list(
            x -> x.put(0, 0, 0), x -> x.fault(0), x -> x.ship(0), x -> x.on(0), x -> x.on(1), x -> x.on(2)));
    }

    private static void beyond() {
        Doc.terms("2 BEYOND (a place of a ROW, a TEXT that there is not)");
        PumpSpells y = new PumpSpells();
        y.row(0, 2);
        y.text(0, 2);
        dueFindings(y, BEYOND, list(
            x -> x.lay(0, -1, 0), x -> x.lay(0, 2, 0), x -> x.at(0, -1), x -> x.at(0, 2), x -> x.put(0, -1, 0),
            x -> x.put(0, 2, 0), x -> x.copy(0, 2, 0, 0, 1), x -> x.copy(0, 0, 0, 2, 1), x -> x.copy(0, 0, 0, 0, 3)));
        Checks.dueTold("the last place", y, y.at(0, 1), 0);
        Checks.due("the last byte", y.put(0, 1, 0), 1032);
    }

    private static void unlike() {
        Doc.terms("3 UNLIKE (a GANG of another KIND; a number that is none)");
        PumpSpells y = Checks.launch("w305314 g6");
        Checks.fill(y, 0, 10, 30);
        Checks.fill(y, 1, -1, 30);
        dueFindings(y, UNLIKE, list(
            x -> x.mark(0, 1), x -> x.mark(0, 5), x -> x.run(0), x -> x.run(1), x -> x.rota(0), x -> x.rota(1),
            x -> x.feigns(0), x -> x.feigns(1), x -> x.kinds(0, 0), x -> x.kinds(0, 1), x -> x.leaks(0), x -> x.leaks(1)));
    }

    private static void nought() {
        Doc.terms("4 NOUGHT (shared among none)");
        PumpSpells y = new PumpSpells();
        y.row(0, 0);
        dueFindings(y, NOUGHT, list(x -> x.mean(0)));
        y.row(0, 1);
        Checks.dueTold("among one", y, y.mean(0), 0);
    }

    private static void size() {
        Doc.terms("5 SIZE (fewer than none; too many, not as many as due)");
        PumpSpells y = Checks.launch("w305314 g6");
        y.row(0, 1);
        y.row(1, 13);
        y.row(2, 0);
        dueFindings(y, SIZE, list(
            x -> x.row(0, -1), x -> x.text(0, -1), x -> x.copy(0, 0, 0, 0, -1), x -> x.rota(1), x -> x.rota(2),
            x -> x.gains(0), x -> x.gains(2), x -> x.feigns(0), x -> x.kinds(0, 0), x -> x.leaks(0)));
    }

    private static void setsByBits() {
        Doc.terms("Sets (of GANGS, of ACTS, of KINDS) are told by bits.");
        PumpSpells x = Checks.launch("w305214 g6 s9");
        Checks.due("ACTS", x.can(), 1 + 2 + 64 + 128 + 256 + 512);
        Checks.due("first ACTS", x.firsts(1), 1 + 2 + 64 + 128 + 256 + 512);
        Checks.fill(x, 0, 1, 33);
        Checks.due("GANGS", x.feigns(0), 2);
        Checks.due("KINDS", x.kinds(1, 0), 8);
        Checks.fill(x, 0, 9, 36);
        Checks.due("LEAKS", x.leaks(0), 32);
    }

    // ---- 512 calls

    private static void lastCallOf512() {
        Doc.opening("An object is used for at most 512 calls after it has been made");
        PumpSpells x = new PumpSpells();
        for (int n = 1; n < CALLS; n++) {
            Checks.due("call " + n, x.tear(0), FINDING);
        }
        Checks.due("call " + CALLS, x.findings(1), CALLS - 1);
        PumpSpells y = new PumpSpells();
        y.row(0, 1);
        for (int n = 2; n < CALLS; n++) {
            Checks.due("call " + n, y.lay(0, 0, n), 1);
        }
        Checks.due("call " + CALLS, y.asked(), CALLS - 2);
    }

    private static void hoursIn512Calls() {
        Doc.opening("An object is used for at most 512 calls after it has been made");
        PumpSpells x = new PumpSpells();
        String text = "w001040s9s9";
        x.text(0, text.length());
        for (int i = 0; i < text.length(); i++) {
            x.put(0, i, text.charAt(i));
        }
        x.ship(0);
        int calls = text.length() + 2;
        int passed = 0;
        while (calls < CALLS) {
            if (passed == 40) {
                Checks.due("call " + ++calls, x.undo(0), 40);
                passed = 0;
            } else {
                // by turns with CLEARED ones no WATER stays
                int a = passed % 2 == 0 ? 6 : passed / 2 % 2;
                Checks.due("call " + ++calls, x.act(a), a == 6 ? 1 : 0);
                passed++;
            }
        }
        Checks.due("calls", calls, CALLS);
    }
}
