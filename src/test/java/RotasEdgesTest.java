import java.util.Arrays;

/** What 'Terms' says of ROTAS, and promises 25 to 30. */
public final class RotasEdgesTest {
    private static final int BAD = PumpSpells.BAD, NONE = PumpSpells.NONE, STATE = PumpSpells.STATE;
    private static final int NOTHING = 1, UNLIKE = 3, SIZE = 5;
    private static final int MIN = Integer.MIN_VALUE, MAX = Integer.MAX_VALUE;

    public static void main(String[] args) {
        againAndAgain();
        cantBeIsNine();
        aside();
        rotaTillLand();
        rotaSunk();
        rotaSizes();
        rotaUnlike();
        rotaOrder();
        rotaEnded();
        watchLeast();
        watchTheFirst();
        watchComesAnew();
        watchNone();
        watchEnded();
        watchOutside();
        lastsHours();
        lastsTillLand();
        lastsOutside();
        inchesLess();
        inchesTillLandOrSunk();
        inchesOutside();
        lightenFewest();
        lightenThrownBefore();
        lightenNone();
        lightenOutside();
        restHours();
        restOutside();
        Checks.end("RotasEdgesTest");
    }

    private static PumpSpells behind(String text, int... acts) {
        PumpSpells x = Checks.launch(text);
        for (int a : acts) {
            x.act(a);
        }
        return x;
    }

    private static void dueRota(PumpSpells x, int water, int hours, int... acts) {
        Checks.fill(x, 0, acts);
        long digest = x.digest();
        Checks.due("rota of " + Arrays.toString(acts), x.rota(0), water);
        Checks.due("rota of " + Arrays.toString(acts) + ": asked()", x.asked(), hours);
        Checks.due("rota is aside", x.digest(), digest);
    }

    // ---- Terms

    /** A ROTA is as the PLAN of all its HOURS. */
    private static void dueAsPlan(String text, int... acts) {
        PumpSpells x = Checks.launch(text);
        int hours = Checks.told(x, 7);
        int[] plan = new int[hours];
        for (int h = 0; h < hours; h++) {
            plan[h] = acts[h % acts.length];
        }
        Checks.fill(x, 1, plan);
        Checks.due("the PLAN", x.run(1), hours);
        int water = x.asked();
        dueRota(x, water, hours, acts);
    }

    private static void againAndAgain() {
        Doc.terms("A ROTA is a PLAN that is done again and again till LAND.");
        for (String hours : new String[] {"01", "02", "11", "12", "13", "24", "25", "40"}) {
            String text = "w201040 s9 c9 g9".replace("040", "0" + hours);
            dueAsPlan(text, 0);
            dueAsPlan(text, 0, 6);
            dueAsPlan(text, 1, 9, 2);
            dueAsPlan(text, 2, 6, 0, 6, 1, 6, 9, 9, 9, 9, 9);
            dueAsPlan(text, 0, 1, 2, 6, 0, 1, 2, 6, 9, 9, 9, 9);
        }
    }

    private static void cantBeIsNine() {
        Doc.terms("---- 4 rotas (aside; an ACT that can't be is 9 then).");
        PumpSpells x = Checks.launch("w305103 g6");
        dueRota(x, 48, 3, 9);
        dueRota(x, 48, 3, 1);
        dueRota(x, 48, 3, 5);
        // one CARGO alone is there: no two of them are thrown over
        dueRota(x, 48, 3, 7);
        dueRota(Checks.launch("w305203 g6"), 47, 3, 7);
        // the SAIL's own HOUR leaks 6, those behind it 3
        dueRota(x, 42, 3, 8);
        Checks.due("lasts", Checks.launch("w911009 g6").lasts(1), Checks.launch("w911009 g6").lasts(9));
        Checks.dueTold("inches", x, x.inches(1, 9, 3), 0);
        Checks.dueTold("inches", x, x.inches(9, 5, 3), 0);
        Checks.due("lighten", Checks.launch("w961201 g6").lighten(1), 2);
        PumpSpells y = behind("w305103 g6", 9);
        Checks.due("watch: 9 and those that can't be are as good", y.watch(1, 1), 36);
        PumpSpells z = behind("w305009 g6", 8);
        Checks.fill(z, 0, 8);
        Checks.due("the SAIL was set", z.rota(0), 60);
    }

    private static void aside() {
        Doc.terms("---- 4 rotas (aside;");
        PumpSpells x = behind(Checks.ALL_KINDS, 1, 7);
        x.keep(0);
        Checks.fill(x, 0, 1, 8, 7, 6, 4);
        x.row(1, 0);
        long digest = x.digest();
        x.rota(0);
        x.watch(3, 1);
        x.row(1, 0);
        x.lasts(8);
        x.inches(7, 8, 20);
        x.lighten(7);
        x.rest(0);
        Checks.due("the SHIP is as it was", x.digest(), digest);
        Checks.due("so are its HOURS", x.undo(1), 1);
        Checks.dueTold("WATER of HOUR 1", x, x.tell(0), 27);
        Checks.dueTold("CARGO of HOUR 1", x, x.tell(2), 3);
    }

    // ---- 25 rota

    private static void rotaTillLand() {
        Doc.promise(25, "A ROTA in a ROW, till LAND: WATER then; in how many HOURS by asked().");
        dueRota(Checks.launch("w001001 g6"), 1, 1, 9);
        dueRota(Checks.launch("w001002 g6"), 2, 2, 9);
        dueRota(Checks.launch("w001039 g6"), 54, 39, 9);
        dueRota(Checks.launch("w001040 g6"), 57, 40, 9);
        dueRota(behind("w001040 g6", 9), 57, 39, 9);
        dueRota(Checks.launch("w951001 g6"), 99, 1, 9);
        dueRota(Checks.launch("w001001 g6"), 0, 1, 0, 9);
    }

    private static void rotaSunk() {
        Doc.promise(25, "NONE: it is SUNK (asked(): behind how many HOURS).");
        dueRota(Checks.launch("w961001 g6"), NONE, 1, 9);
        dueRota(Checks.launch("w951002 g6"), NONE, 2, 9);
        dueRota(Checks.launch("w951040 g6"), NONE, 2, 9, 9, 9);
        dueRota(Checks.launch("w911040 g6"), NONE, 3, 9);
        dueRota(behind("w911040 g6", 9), NONE, 2, 9);
        dueRota(Checks.launch("w951001 g6"), 99, 1, 9);
    }

    private static void rotaSizes() {
        Doc.promise(25, "SIZE: none, or more than 12");
        PumpSpells x = Checks.launch("w001040 g6");
        x.row(0, 0);
        Checks.dueFinding("rota of none", x, () -> x.rota(0), SIZE);
        for (int n : new int[] {1, 2, 11, 12}) {
            x.row(0, n);
            Checks.due("rota of " + n, x.rota(0) >= 0 ? 1 : 0, 1);
        }
        for (int n : new int[] {13, 14, 40}) {
            x.row(0, n);
            Checks.dueFinding("rota of " + n, x, () -> x.rota(0), SIZE);
        }
        // the last ACT of twelve is done: 85 and 4 less 6
        PumpSpells y = Checks.launch("w501012 g6");
        dueRota(y, 83, 12, 9, 9, 9, 9, 9, 9, 9, 9, 9, 9, 9, 0);
        dueRota(y, 89, 12, 9, 9, 9, 9, 9, 9, 9, 9, 9, 9, 9, 9);
    }

    private static void rotaUnlike() {
        Doc.promise(25, "UNLIKE.");
        for (int a : new int[] {-1, 10, MIN, MAX}) {
            PumpSpells x = Checks.launch("w001001 g6");
            Checks.fill(x, 0, a);
            Checks.dueFinding("rota of " + a, x, () -> x.rota(0), UNLIKE);
            Checks.fill(x, 0, 9, a);
            Checks.dueFinding("rota of " + a + " behind LAND", x, () -> x.rota(0), UNLIKE);
            Checks.fill(x, 0, 9, 9, 9, 9, 9, 9, 9, 9, 9, 9, 9, a);
            Checks.dueFinding("rota of " + a + " at last", x, () -> x.rota(0), UNLIKE);
        }
        PumpSpells x = Checks.launch("w001001 g6");
        for (int a : new int[] {0, 5, 9}) {
            Checks.fill(x, 0, a);
            Checks.due("rota of " + a, x.rota(0) >= 0 ? 1 : 0, 1);
        }
    }

    private static void rotaOrder() {
        Doc.promise(25, "BAD; STATE: no GANGS; NOTHING; SIZE: none, or more than 12; UNLIKE. (In this order;");
        PumpSpells x = new PumpSpells();
        Checks.dueBad("rota: BAD ahead of STATE", x, x::rota, -1, 6, MIN, MAX);
        Checks.dueRefused("STATE ahead of NOTHING", x, () -> x.rota(0), STATE);
        x.row(0, 0);
        Checks.dueRefused("STATE ahead of SIZE", x, () -> x.rota(0), STATE);
        Checks.fill(x, 0, 10);
        Checks.dueRefused("STATE ahead of UNLIKE", x, () -> x.rota(0), STATE);
        Checks.relaunch(x, "w001040 g6");
        Checks.dueFinding("NOTHING", x, () -> x.rota(1), NOTHING);
        x.row(0, 13);
        x.lay(0, 0, 10);
        Checks.dueFinding("SIZE ahead of UNLIKE", x, () -> x.rota(0), SIZE);
    }

    private static void rotaEnded() {
        Doc.promise(25, "SUNK, at LAND already: 0 HOURS.)");
        dueRota(behind("w961040 g6", 9), NONE, 0, 0);
        dueRota(behind("w951001 g6", 9), 99, 0, 0);
        PumpSpells x = behind("w951001 g6", 9);
        x.row(1, 0);
        Checks.dueFinding("SIZE at LAND", x, () -> x.rota(1), SIZE);
        Checks.fill(x, 1, 10);
        Checks.dueFinding("UNLIKE at LAND", x, () -> x.rota(1), UNLIKE);
    }

    // ---- 26 watch

    private static void watchLeast() {
        Doc.promise(26, "The ROTA of n (1 .. 3) ACTS by which it comes to LAND with least WATER");
        PumpSpells x = Checks.launch("w501001 f9 g9 r9");
        Checks.due("watch(1) of one HOUR", x.watch(1, 0), 44);
        Checks.dueRow("the RACING one", x, 0, 2);
        Checks.due("watch(3) of one HOUR", x.watch(3, 0), 44);
        Checks.dueRow("the first of those", x, 0, 2, 0, 0);
        // a RACING one of 4 can but one HOUR: the other one goes in turn with it
        PumpSpells y = Checks.launch("w501002 r4 r4");
        Checks.due("watch(1) of two HOURS", y.watch(1, 0), 42);
        Checks.due("watch(2) of two HOURS", y.watch(2, 0), 37);
        Checks.dueRow("by turns", y, 0, 0, 1);
        PumpSpells z = Checks.launch("w501003 r4 r4 r4");
        Checks.due("watch(2) of three HOURS", z.watch(2, 0), 35);
        Checks.due("watch(3) of three HOURS", z.watch(3, 0), 30);
        Checks.dueRow("by turns of three", z, 0, 0, 1, 2);
        // the SAIL first: it leaks 12, 6, 6
        PumpSpells v = Checks.launch("w759003 f1");
        Checks.due("watch(1) of the SAIL", v.watch(1, 0), 99);
        Checks.dueRow("the SAIL, then nothing", v, 0, 8);
        Checks.due("watch(3) of the SAIL and the pump", v.watch(3, 0), 97);
        Checks.dueRow("the SAIL ahead of the pump", v, 0, 8, 0, 0);
    }

    private static void watchTheFirst() {
        Doc.promise(26, "with least WATER (the first)");
        PumpSpells x = Checks.launch("w001040 s9 s9");
        for (int n = 1; n <= 3; n++) {
            Checks.due("watch(" + n + ")", x.watch(n, n), 0);
            Checks.dueRow("the first of all", x, n, new int[n]);
        }
        PumpSpells y = Checks.launch("w501001 s9 g9");
        Checks.due("as good", y.watch(1, 0), 47);
        Checks.dueRow("the first of two", y, 0, 0);
        // none is left by either, one inch is by the FEIGNED one
        PumpSpells z = Checks.launch("w031001 f9 g9 s9");
        Checks.due("none is left", z.watch(1, 0), 0);
        Checks.dueRow("the first by which none is", z, 0, 1);
    }

    private static void watchComesAnew() {
        Doc.promise(26, "it comes to a ROW (anew): WATER.");
        PumpSpells x = Checks.launch("w501001 g9");
        Checks.due("to a missing one", x.watch(2, 5), 47);
        Checks.dueRow("to a missing one", x, 5, 0, 0);
        int[] many = new int[40];
        Arrays.fill(many, 7);
        Checks.fill(x, 0, many);
        Checks.due("to a longer one", x.watch(1, 0), 47);
        Checks.dueRow("to a longer one", x, 0, 0);
        x.row(1, 0);
        Checks.due("to an empty one", x.watch(3, 1), 47);
        Checks.dueRow("to an empty one", x, 1, 0, 0, 0);
    }

    private static void watchNone() {
        Doc.promise(26, "NONE: none does.");
        PumpSpells x = Checks.launch("w979001 r9");
        Checks.fill(x, 0, 8, 9);
        long digest = x.digest();
        for (int n = 1; n <= 3; n++) {
            Checks.due("watch(" + n + ", 0)", x.watch(n, 0), NONE);
            Checks.due("watch(" + n + ", 1)", x.watch(n, 1), NONE);
        }
        Checks.due("no ROW comes", x.digest(), digest);
        Checks.due("no FINDING", Checks.allFindings(x), 0);
        Checks.due("99 inches at LAND", Checks.launch("w969001 r9").watch(1, 0), 99);
        Checks.due("99 and one HOUR more", Checks.launch("w969002 r9").watch(3, 0), NONE);
    }

    private static void watchEnded() {
        Doc.promise(26, "by which it comes to LAND");
        PumpSpells x = behind("w951001 g6", 9);
        Checks.due("at LAND already", x.watch(2, 0), 99);
        Checks.dueRow("the first of all", x, 0, 0, 0);
        PumpSpells y = behind("w961001 g6", 9);
        Checks.due("SUNK already", y.watch(2, 0), NONE);
    }

    private static void watchOutside() {
        Doc.promise(26, "BAD; STATE.");
        PumpSpells x = Checks.launch("w305101 g6");
        Checks.dueRange("watch(n, 0)", x, n -> x.watch(n, 0), 1, 3);
        PumpSpells y = new PumpSpells();
        Checks.dueBad("BAD ahead of STATE", y, n -> y.watch(n, 0), 0, 4, MIN, MAX);
        Checks.dueBad("BAD ahead of STATE, by its ROW", y, r -> y.watch(1, r), -1, 6);
        Checks.dueRefused("watch(1, 0) without GANGS", y, () -> y.watch(1, 0), STATE);
        Checks.dueRefused("watch(3, 5) without GANGS", y, () -> y.watch(3, 5), STATE);
    }

    // ---- 27 lasts

    private static void lastsHours() {
        Doc.promise(27, "How many HOURS one ACT (0 .. 9), again and again, keeps it afloat");
        Checks.due("SUNK in the first HOUR", Checks.launch("w961040 g6").lasts(9), 0);
        Checks.due("99 behind one HOUR", Checks.launch("w951040 g6").lasts(9), 1);
        Checks.due("99 behind two HOURS", Checks.launch("w911040 g6").lasts(9), 2);
        Checks.due("98 behind two HOURS", Checks.launch("w901040 g6").lasts(9), 2);
        Checks.due("behind an HOUR", behind("w911040 g6", 9).lasts(9), 1);
        // 94 to 86 in five HOURS; choked 88 to 94 in four; without STRENGTH 97 and 100
        Checks.due("by the pump", Checks.launch("w961040 s9").lasts(0), 10);
        Checks.due("SUNK already", behind("w961040 g6", 9).lasts(0), 0);
    }

    private static void lastsTillLand() {
        Doc.promise(27, "(till LAND at most)");
        Checks.due("one HOUR", Checks.launch("w001001 g6").lasts(9), 1);
        Checks.due("forty HOURS", Checks.launch("w001040 g6").lasts(9), 40);
        Checks.due("two HOURS to 99", Checks.launch("w911002 g6").lasts(9), 2);
        Checks.due("SUNK in the last HOUR", Checks.launch("w921002 g6").lasts(9), 1);
        Checks.due("at LAND already", behind("w001001 g6", 9).lasts(9), 0);
        Checks.due("one HOUR yet", behind("w001002 g6", 9).lasts(9), 1);
    }

    private static void lastsOutside() {
        Doc.promise(27, "BAD; STATE.");
        PumpSpells x = Checks.launch("w305101 g6");
        Checks.dueRange("lasts", x, x::lasts, 0, 9);
        PumpSpells y = new PumpSpells();
        Checks.dueBad("BAD ahead of STATE", y, y::lasts, -1, 10, MIN, MAX);
        Checks.dueRefused("lasts(0) without GANGS", y, () -> y.lasts(0), STATE);
        Checks.dueRefused("lasts(9) without GANGS", y, () -> y.lasts(9), STATE);
    }

    // ---- 28 inches

    private static void inchesLess() {
        Doc.promise(28, "By how many inches WATER is less behind n (0 .. 20) HOURS");
        Doc.promise(28, "of one ACT than of another one, told by asked() (perhaps below 0): 1.");
        PumpSpells x = Checks.launch("w001040 s9");
        for (int n : new int[] {0, 1, 2, 19, 20}) {
            Checks.dueTold("inches(0, 9, " + n + ")", x, x.inches(0, 9, n), n);
            Checks.dueTold("inches(9, 0, " + n + ")", x, x.inches(9, 0, n), -n);
            Checks.dueTold("inches(9, 9, " + n + ")", x, x.inches(9, 9, n), 0);
            Checks.dueTold("inches(0, 0, " + n + ")", x, x.inches(0, 0, n), 0);
        }
    }

    private static void inchesTillLandOrSunk() {
        Doc.promise(28, "(till LAND, or SUNK, at most)");
        PumpSpells x = Checks.launch("w001005 s9");
        int[] land = {0, 1, 2, 3, 4, 5, 5, 5};
        for (int n = 0; n < land.length; n++) {
            Checks.dueTold("of five HOURS, inches(0, 9, " + n + ")", x, x.inches(0, 9, n), land[n]);
        }
        Checks.dueTold("of five HOURS, inches(0, 9, 20)", x, x.inches(0, 9, 20), 5);
        // without the pump it is SUNK at 102 behind three HOURS; with it 88, 86, 84, 82, 80, choked 82
        PumpSpells y = Checks.launch("w901040 s9");
        int[] sunk = {0, 6, 12, 18, 20, 22, 20};
        for (int n = 0; n < sunk.length; n++) {
            Checks.dueTold("till SUNK, inches(0, 9, " + n + ")", y, y.inches(0, 9, n), sunk[n]);
        }
        PumpSpells v = behind("w961040 s9", 9);
        Checks.dueTold("SUNK already", v, v.inches(0, 9, 20), 0);
        PumpSpells z = behind("w001001 s9", 9);
        Checks.dueTold("at LAND already", z, z.inches(0, 9, 20), 0);
    }

    private static void inchesOutside() {
        Doc.promise(28, "BAD; STATE.");
        PumpSpells x = Checks.launch("w305140 g6");
        Checks.dueRange("inches(a, 0, 0)", x, a -> x.inches(a, 0, 0), 0, 9);
        Checks.dueRange("inches(0, b, 0)", x, b -> x.inches(0, b, 0), 0, 9);
        Checks.dueRange("inches(0, 9, n)", x, n -> x.inches(0, 9, n), 0, 20);
        PumpSpells y = new PumpSpells();
        Checks.dueBad("BAD ahead of STATE, the one", y, a -> y.inches(a, 0, 0), -1, 10);
        Checks.dueBad("BAD ahead of STATE, the other", y, b -> y.inches(0, b, 0), -1, 10);
        Checks.dueBad("BAD ahead of STATE, HOURS", y, n -> y.inches(0, 0, n), -1, 21);
        Checks.dueRefused("inches(0, 0, 0) without GANGS", y, () -> y.inches(0, 0, 0), STATE);
        Checks.dueRefused("inches(9, 9, 20) without GANGS", y, () -> y.inches(9, 9, 20), STATE);
    }

    // ---- 29 lighten

    private static void lightenFewest() {
        Doc.promise(29, "How many CARGOES (0 .. those aboard), thrown over at once now, are the fewest "
            + "by which one ACT, again and again, brings it to LAND.");
        int[][] fewest = {{94, 0}, {95, 0}, {96, 2}, {97, 4}, {98, 6}, {99, 8}};
        for (int[] f : fewest) {
            for (int cargo = 0; cargo <= 9; cargo++) {
                PumpSpells x = Checks.launch("w" + f[0] + "1" + cargo + "01 g6");
                int due = f[1] <= cargo ? f[1] : NONE;
                Checks.due("lighten(9) of " + f[0] + " by CARGO " + cargo, x.lighten(9), due);
                Checks.dueTold("CARGO stays", x, x.tell(2), cargo);
            }
        }
        Checks.due("by the pump", Checks.launch("w991001 g6").lighten(0), 0);
        // by ACT 7 from one on: 93 (two thrown over), 96, 99; by ACT 9: 93, 97, 101
        PumpSpells y = Checks.launch("w891303 g6");
        Checks.due("lighten(7) of three HOURS", y.lighten(7), 1);
        Checks.due("lighten(9) of three HOURS", y.lighten(9), 2);
        // what is thrown over at once is not there for ACT 7: 92, 96, 100
        Checks.due("lighten(7) of one CARGO", Checks.launch("w881103 g6").lighten(7), NONE);
        Checks.due("lighten(7) of two", Checks.launch("w881203 g6").lighten(7), 0);
    }

    private static void lightenThrownBefore() {
        Doc.promise(29, "(0 .. those aboard)");
        PumpSpells x = behind("w921202 g6", 7);
        Checks.dueTold("WATER", x, x.tell(0), 96);
        Checks.due("the second one", x.lighten(9), 1);
        PumpSpells y = behind("w921102 g6", 7);
        Checks.due("none aboard any more", y.lighten(9), NONE);
    }

    private static void lightenNone() {
        Doc.promise(29, "NONE: none do.");
        Checks.due("no CARGO", Checks.launch("w961001 g6").lighten(9), NONE);
        Checks.due("one is too few", Checks.launch("w961101 g6").lighten(9), NONE);
        Checks.due("two are enough", Checks.launch("w961201 g6").lighten(9), 2);
        Checks.due("nine are too few", Checks.launch("w979901 g6").lighten(9), NONE);
        Checks.due("SUNK already", behind("w961901 g6", 9).lighten(9), NONE);
        Checks.due("at LAND already", behind("w951901 g6", 9).lighten(9), 0);
    }

    private static void lightenOutside() {
        Doc.promise(29, "BAD; STATE.");
        PumpSpells x = Checks.launch("w305101 g6");
        Checks.dueRange("lighten", x, x::lighten, 0, 9);
        PumpSpells y = new PumpSpells();
        Checks.dueBad("BAD ahead of STATE", y, y::lighten, -1, 10, MIN, MAX);
        Checks.dueRefused("lighten(0) without GANGS", y, () -> y.lighten(0), STATE);
        Checks.dueRefused("lighten(9) without GANGS", y, () -> y.lighten(9), STATE);
    }

    // ---- 30 rest

    private static void restHours() {
        Doc.promise(30, "In how many HOURS of rest a GANG has its FORCE.");
        PumpSpells x = Checks.launch("w501040 s9 r9");
        Checks.due("at first", x.rest(0), 0);
        x.act(0);
        Checks.due("one HOUR of a SUNG one", x.rest(0), 1);
        x.act(1);
        Checks.due("a rest of one", x.rest(0), 0);
        Checks.due("one HOUR of a RACING one", x.rest(1), 4);
        x.act(1);
        x.act(1);
        Checks.due("without STRENGTH", x.rest(1), 9);
        for (int left = 9; left >= 0; left--) {
            Checks.due("rest", x.rest(1), left);
            x.act(9);
        }
        Checks.due("no less than none", x.rest(1), 0);
        PumpSpells y = Checks.launch("w501040 s1");
        y.force(0, 9);
        Checks.due("more FORCE", y.rest(0), 8);
        y.force(0, 1);
        Checks.due("less FORCE", y.rest(0), 0);
    }

    private static void restOutside() {
        Doc.promise(30, "BAD.");
        for (int n : new int[] {1, 2, 6}) {
            PumpSpells x = Checks.launch("w305314" + "g6".repeat(n));
            Checks.dueRange("rest of " + n, x, x::rest, 0, n - 1);
        }
        PumpSpells y = new PumpSpells();
        Checks.dueBad("rest of no SHIP", y, y::rest, -1, 0, 5, 6, MIN, MAX);
    }
}
