/** What 'Terms' says of TEXTS and of reading a SHIP, and promises 8 to 11. */
public final class TextsEdgesTest {
    private static final int BAD = PumpSpells.BAD, NONE = PumpSpells.NONE, STATE = PumpSpells.STATE;
    private static final int NOTHING = 1, BEYOND = 2, SIZE = 5;
    private static final int MIN = Integer.MIN_VALUE, MAX = Integer.MAX_VALUE;
    private static final String LETTERS = "grsflc";

    public static void main(String[] args) {
        fourTexts();
        missingAtFirst();
        withoutGangsAtFirst();
        blanksAsManyAsWanted();
        blanksWithinItems();
        blanksAlone32();
        firstW();
        waterOfTwoFigures();
        leakFromOne();
        cargoFromNone();
        hoursOneToForty();
        gangsOneToSix();
        seventhGang();
        gangsAsTheyCome();
        forceOfOneFigure();
        lettersOfKinds();
        everyByteAtEveryPlace();
        firstOfManyFaults();
        endComesTooEarly();
        blanksAlone();
        textOfBlanks();
        textAnew();
        textTooLong();
        textBelowNone();
        putTellsWhatItWas();
        putCutToAByte();
        putAtTheEnds();
        putRefused();
        faultOrNone();
        faultRefused();
        shipTellsHowMany();
        shipAnew();
        shipRefused();
        shipStateBehindNothing();
        Checks.end("TextsEdgesTest");
    }

    private static int faultOf(String text) {
        PumpSpells x = new PumpSpells();
        Checks.write(x, 1, text);
        return x.fault(1);
    }

    /** A FAULT at a place, by which no SHIP comes; or none, by which one does. */
    private static void dueFault(String text, int fault) {
        PumpSpells x = new PumpSpells();
        Checks.write(x, 1, text);
        Checks.due("fault of '" + text + "'", x.fault(1), fault);
        if (fault == NONE) {
            Checks.due("ship of '" + text + "'", x.ship(1), x.count(0));
            Checks.due("GANGS of '" + text + "'", x.count(0) > 0 ? 1 : 0, 1);
        } else {
            Checks.dueRefused("ship of '" + text + "'", x, () -> x.ship(1), STATE);
        }
    }

    // ---- Terms

    private static int byText(PumpSpells x, int call, int t) {
        switch (call) {
            case 0: return x.text(t, 1);
            case 1: return x.put(t, 0, 32);
            case 2: return x.fault(t);
            default: return x.ship(t);
        }
    }

    private static void fourTexts() {
        Doc.terms("TEXTS 0 .. 3 rows of 0 to 60 bytes");
        for (int c = 0; c < 4; c++) {
            int call = c;
            PumpSpells x = new PumpSpells();
            for (int t = 0; t < 4; t++) {
                Checks.write(x, t, "w305314g6");
            }
            Checks.dueRange("text call " + c, x, t -> byText(x, call, t), 0, 3);
            Checks.due("no FINDING of TEXTS that are there", Checks.allFindings(x), 0);
        }
    }

    private static void missingAtFirst() {
        Doc.terms("TEXTS 0 .. 3 rows of 0 to 60 bytes, or missing (at first).");
        for (int c = 1; c < 4; c++) {
            int call = c;
            PumpSpells x = new PumpSpells();
            for (int t = 0; t < 4; t++) {
                int text = t;
                Checks.dueFinding("text call " + c + " of " + t, x, () -> byText(x, call, text), NOTHING);
            }
        }
    }

    private static void withoutGangsAtFirst() {
        Doc.terms("A SHIP (without GANGS at first) is a TEXT");
        PumpSpells x = new PumpSpells();
        Checks.write(x, 0, "w305314g6");
        Checks.due("GANGS ahead of ship()", x.count(0), 0);
        Checks.dueRefused("can() ahead of ship()", x, x::can, STATE);
        Checks.due("ship(0)", x.ship(0), 1);
        Checks.due("GANGS behind it", x.count(0), 1);
    }

    private static void blanksAsManyAsWanted() {
        Doc.terms("blanks (32) ahead, between, behind as many as wanted, none within items.");
        for (int n : new int[] {0, 1, 2, 50, 51}) {
            dueFault(" ".repeat(n) + "w305314g6", NONE);
            dueFault("w305314" + " ".repeat(n) + "g6", NONE);
            dueFault("w305314g6" + " ".repeat(n), NONE);
        }
        dueFault("w305314g6" + " ".repeat(49) + "r9", NONE);
        dueFault(" ".repeat(20) + "w305314" + " ".repeat(15) + "g6" + " ".repeat(16), NONE);
        dueFault(" w305314 g1  r2 s3f4 l5c6 ", NONE);
    }

    private static void blanksWithinItems() {
        Doc.terms("none within items");
        for (int place = 1; place <= 6; place++) {
            dueFault("w305314".substring(0, place) + " " + "w305314".substring(place) + " g6", place);
        }
        dueFault("w305314 g 6", 9);
        dueFault("w305314 g6 r 9", 12);
    }

    private static void blanksAlone32() {
        Doc.terms("blanks (32)");
        for (int b : new int[] {31, 33, 9, 10, 0, -96, 160}) {
            PumpSpells x = new PumpSpells();
            Checks.write(x, 1, " w305314 g6 ");
            x.put(1, 0, b);
            Checks.due("byte " + b + " ahead", x.fault(1), 0);
            x.put(1, 0, 32);
            x.put(1, 8, b);
            Checks.due("byte " + b + " between", x.fault(1), 8);
            x.put(1, 8, 32);
            x.put(1, 11, b);
            Checks.due("byte " + b + " behind", x.fault(1), 11);
            x.put(1, 11, 32);
            Checks.due("blanks again", x.fault(1), NONE);
        }
    }

    private static void firstW() {
        Doc.terms("First w (119)");
        for (int b : new int[] {118, 119, 120, 87, 119 - 256, 119 + 256}) {
            PumpSpells x = new PumpSpells();
            Checks.write(x, 1, "  305314 g6");
            x.put(1, 1, b);
            Checks.due("byte " + b + " as w", x.fault(1), (byte) b == 119 ? NONE : 1);
        }
        dueFault("305314 g6", 0);
        dueFault("g6 w305314", 0);
        dueFault("ww305314 g6", 1);
    }

    private static void waterOfTwoFigures() {
        Doc.terms("the WATER (two figures, 00 .. 99)");
        for (int water = 0; water <= 99; water++) {
            PumpSpells x = Checks.launch("w" + water / 10 + water % 10 + "5314g6");
            Checks.dueTold("WATER", x, x.tell(0), water);
        }
        dueFault("w/05314g6", 1);
        dueFault("w:05314g6", 1);
        dueFault("w0/5314g6", 2);
        dueFault("w0:5314g6", 2);
        dueFault("w-15314g6", 1);
    }

    private static void leakFromOne() {
        Doc.terms("the LEAK (1 .. 9)");
        dueFault("w000314g6", 3);
        dueFault("w00/314g6", 3);
        dueFault("w00:314g6", 3);
        for (int leak = 1; leak <= 9; leak++) {
            PumpSpells x = Checks.launch("w00" + leak + "314g6");
            Checks.dueTold("LEAK", x, x.tell(1), leak);
        }
    }

    private static void cargoFromNone() {
        Doc.terms("the CARGO (0 .. 9)");
        dueFault("w305/14g6", 4);
        dueFault("w305:14g6", 4);
        for (int cargo = 0; cargo <= 9; cargo++) {
            PumpSpells x = Checks.launch("w305" + cargo + "14g6");
            Checks.dueTold("CARGO", x, x.tell(2), cargo);
        }
    }

    private static void hoursOneToForty() {
        Doc.terms("HOURS to LAND (two figures, 01 .. 40)");
        Doc.terms("a figure by which HOURS would be 00 or above 40");
        for (int hours = 0; hours <= 99; hours++) {
            String text = "w3053" + hours / 10 + hours % 10 + "g6";
            int fault = hours >= 1 && hours <= 40 ? NONE : hours >= 50 ? 5 : 6;
            dueFault(text, fault);
            if (fault == NONE) {
                PumpSpells x = Checks.launch(text);
                Checks.dueTold("HOURS of " + text, x, x.tell(7), hours);
            }
        }
        dueFault("w30530g6", 6);
        dueFault("w30534g6", 6);
        dueFault("w3053014g6", 7);
        dueFault("w3053/4g6", 5);
        dueFault("w3053:4g6", 5);
        dueFault("w30531/g6", 6);
        dueFault("w30531:g6", 6);
    }

    private static void gangsOneToSix() {
        Doc.terms("Then GANGS (1 to 6; 0, 1, .. as they come)");
        dueFault("w305314", 7);
        for (int n : new int[] {1, 2, 3, 4, 5, 6}) {
            PumpSpells x = new PumpSpells();
            Checks.write(x, 0, "w305314" + "g6".repeat(n));
            Checks.due(n + " GANGS", x.fault(0), NONE);
            Checks.due("ship of " + n, x.ship(0), n);
            Checks.due("the last one", x.gang(n - 1, 0), 1);
            Checks.dueRefused("one more", x, () -> x.gang(n, 0), BAD);
        }
        dueFault("w305314" + "g6".repeat(7), 19);
    }

    private static void seventhGang() {
        Doc.terms("a seventh one: its place");
        String six = "w305314g1r2s3f4l5c6";
        dueFault(six, NONE);
        for (char letter : LETTERS.toCharArray()) {
            dueFault(six + letter, 19);
            dueFault(six + letter + "9", 19);
            dueFault(six + "   " + letter + "9", 22);
            dueFault(six + letter + "0", 19);
        }
        dueFault(six + " ".repeat(40) + "g", 59);
        dueFault(six + " ".repeat(41), NONE);
        dueFault(six + "g9g9", 19);
    }

    private static void gangsAsTheyCome() {
        Doc.terms("0, 1, .. as they come");
        PumpSpells x = Checks.launch("w305314 c6l5 f4s3 r2g1");
        for (int i = 0; i < 6; i++) {
            Checks.dueTold("KIND of " + i, x, x.gang(i, 0), 5 - i);
            Checks.dueTold("FORCE of " + i, x, x.gang(i, 1), 6 - i);
        }
    }

    private static void forceOfOneFigure() {
        Doc.terms("a letter, the FORCE (1 .. 9, one figure).");
        dueFault("w305314 g0", 9);
        dueFault("w305314 g/", 9);
        dueFault("w305314 g:", 9);
        for (int force = 1; force <= 9; force++) {
            PumpSpells x = Checks.launch("w305314 g" + force);
            Checks.dueTold("FORCE", x, x.gang(0, 1), force);
        }
        dueFault("w305314 g10", 10);
        dueFault("w305314 g06", 9);
        dueFault("w305314 gg6", 9);
        dueFault("w305314 g6 7", 11);
    }

    private static void lettersOfKinds() {
        Doc.terms("KINDS of GANGS and letters: 0 GANG (g, 103), 1 RACING (r, 114; a GANG), 2 SUNG (s, 115; a GANG), "
            + "3 FEIGNED (f, 102; a GANG), 4 LAST (l, 108; a RACING), 5 CHOIR (c, 99; a SUNG).");
        int[] letters = {103, 114, 115, 102, 108, 99};
        for (int b = 0; b <= 127; b++) {
            int kind = -1;
            for (int k = 0; k < 6; k++) {
                kind = letters[k] == b ? k : kind;
            }
            PumpSpells x = new PumpSpells();
            Checks.write(x, 0, "w305314 g6");
            x.put(0, 8, b);
            int fault = kind >= 0 ? NONE : b == 32 ? 9 : 8;
            Checks.due("letter " + b, x.fault(0), fault);
            if (kind >= 0) {
                x.ship(0);
                Checks.dueTold("KIND of letter " + b, x, x.gang(0, 0), kind);
            }
        }
    }

    /** The FAULT of "w305314 g6" with byte b at a place; what stands behind it stays as it is. */
    private static int faultWith(int place, int b) {
        boolean figure = b >= '0' && b <= '9';
        switch (place) {
            case 0: return b == 'w' ? NONE : b == ' ' ? 1 : 0;
            case 3: return figure && b != '0' ? NONE : 3;
            case 5: return b >= '0' && b <= '3' ? NONE : b == '4' ? 6 : 5;
            case 7: return b == ' ' ? NONE : LETTERS.indexOf(b) >= 0 ? 8 : 7;
            case 8: return LETTERS.indexOf(b) >= 0 ? NONE : b == ' ' ? 9 : 8;
            case 9: return figure && b != '0' ? NONE : 9;
            default: return figure ? NONE : place;
        }
    }

    private static void everyByteAtEveryPlace() {
        Doc.terms("A FAULT is the first place at which it can't go on so (a letter, a figure that is none such");
        for (int place = 0; place < 10; place++) {
            PumpSpells x = null;
            for (int b = -128; b <= 127; b++) {
                if (b % 64 == 0) {
                    x = new PumpSpells();
                    Checks.write(x, 2, "w305314 g6");
                }
                x.put(2, place, b);
                Checks.due("byte " + b + " at " + place, x.fault(2), faultWith(place, b));
            }
        }
    }

    private static void firstOfManyFaults() {
        Doc.terms("A FAULT is the first place at which it can't go on so");
        dueFault("xxxxxxx xx", 0);
        dueFault("wxxxxxx xx", 1);
        dueFault("w3xxxxx xx", 2);
        dueFault("w30xxxx xx", 3);
        dueFault("w305xxx xx", 4);
        dueFault("w3053xx xx", 5);
        dueFault("w30531x xx", 6);
        dueFault("w305314 xx", 8);
        dueFault("w305314 gx", 9);
        dueFault("w305314 g6x", 10);
        dueFault("w305399 g0", 5);
        dueFault("w305341 x0", 6);
        dueFault("w300300 g0", 3);
    }

    private static void endComesTooEarly() {
        Doc.terms("the TEXT's size, if its end comes too early");
        String whole = "  w305314 g6 r9";
        for (int n = 0; n <= whole.length(); n++) {
            boolean ends = n == 12 || n == 13 || n == 15;
            dueFault(whole.substring(0, n), ends ? NONE : n);
        }
        dueFault(" ".repeat(53) + "w305314", 60);
        dueFault("w305314" + " ".repeat(53), 60);
        dueFault("w305314" + " ".repeat(52) + "g", 60);
        dueFault("w305314" + " ".repeat(51) + "g6", NONE);
        dueFault(" ".repeat(59) + "w", 60);
    }

    private static void blanksAlone() {
        Doc.terms("or there are blanks alone).");
        for (int n = 0; n <= 60; n++) {
            PumpSpells x = new PumpSpells();
            x.text(0, n);
            Checks.due("fault of " + n + " blanks", x.fault(0), n);
            Checks.dueRefused("ship of " + n + " blanks", x, () -> x.ship(0), STATE);
        }
    }

    // ---- 8 text

    private static void textOfBlanks() {
        Doc.promise(8, "A TEXT is there with n blanks: n.");
        for (int n : new int[] {0, 1, 59, 60}) {
            PumpSpells x = new PumpSpells();
            Checks.due("text(3, " + n + ")", x.text(3, n), n);
            Checks.due("count(7)", x.count(7), 1);
            for (int i = 0; i < n; i++) {
                Checks.due("blank at " + i, x.put(3, i, 32), 1032);
            }
            Checks.dueFinding("its end", x, () -> x.put(3, n, 32), BEYOND);
        }
    }

    private static void textAnew() {
        Doc.promise(8, "A TEXT is there with n blanks: n.");
        PumpSpells x = new PumpSpells();
        Checks.write(x, 0, "x".repeat(60));
        Checks.write(x, 1, "y");
        Checks.due("text(0, 1)", x.text(0, 1), 1);
        Checks.due("text(0, 60)", x.text(0, 60), 60);
        for (int i = 0; i < 60; i++) {
            Checks.due("blank at " + i, x.put(0, i, 32), 1032);
        }
        Checks.due("the TEXT beside it", x.put(1, 0, 32), 1000 + 'y');
        Checks.due("count(7)", x.count(7), 2);
    }

    private static void textTooLong() {
        Doc.promise(8, "BAD: also n above 60");
        PumpSpells x = new PumpSpells();
        Checks.write(x, 0, "ab");
        Checks.due("text(1, 59)", x.text(1, 59), 59);
        Checks.due("text(1, 60)", x.text(1, 60), 60);
        Checks.dueRefused("text(0, 61)", x, () -> x.text(0, 61), BAD);
        Checks.dueRefused("text(0, 62)", x, () -> x.text(0, 62), BAD);
        Checks.dueRefused("text(0, MAX)", x, () -> x.text(0, MAX), BAD);
        Checks.dueRefused("text(2, 61) of a missing one", x, () -> x.text(2, 61), BAD);
    }

    private static void textBelowNone() {
        Doc.promise(8, "SIZE: below 0.");
        PumpSpells x = new PumpSpells();
        Checks.write(x, 0, "ab");
        Checks.dueFinding("text(0, -1)", x, () -> x.text(0, -1), SIZE);
        Checks.dueFinding("text(0, -2)", x, () -> x.text(0, -2), SIZE);
        Checks.dueFinding("text(2, MIN)", x, () -> x.text(2, MIN), SIZE);
        Checks.due("text(0, 0)", x.text(0, 0), 0);
        Checks.dueRefused("BAD ahead of SIZE", x, () -> x.text(-1, -1), BAD);
        Checks.dueRefused("BAD ahead of SIZE", x, () -> x.text(4, -1), BAD);
    }

    // ---- 9 put

    private static void putTellsWhatItWas() {
        Doc.promise(9, "Byte i of a TEXT is v");
        Doc.promise(9, "what it was, and 1000 more.");
        PumpSpells x = new PumpSpells();
        x.text(0, 3);
        Checks.due("put 0 behind a blank", x.put(0, 1, 0), 1032);
        Checks.due("put 1 behind 0", x.put(0, 1, 1), 1000);
        Checks.due("put -1 behind 1", x.put(0, 1, -1), 1001);
        Checks.due("put 7 behind -1", x.put(0, 1, 7), 999);
        Checks.due("put 7 again", x.put(0, 1, 7), 1007);
        Checks.due("the place ahead", x.put(0, 0, 0), 1032);
        Checks.due("the place behind", x.put(0, 2, 0), 1032);
    }

    private static void putCutToAByte() {
        Doc.promise(9, "cut to a byte");
        int[][] cut = {
            {126, 126}, {127, 127}, {128, -128}, {129, -127}, {254, -2}, {255, -1}, {256, 0}, {257, 1},
            {-127, -127}, {-128, -128}, {-129, 127}, {-256, 0}, {-257, -1}, {MAX, -1}, {MIN, 0}, {MIN + 1, 1},
            {65535, -1}, {65536, 0}, {65664, -128},
        };
        PumpSpells x = new PumpSpells();
        x.text(3, 1);
        for (int[] c : cut) {
            x.put(3, 0, c[0]);
            Checks.due(c[0] + " cut to a byte", x.put(3, 0, 32), 1000 + c[1]);
        }
    }

    private static void putAtTheEnds() {
        Doc.promise(9, "BAD; NOTHING; BEYOND.");
        for (int n : new int[] {1, 2, 59, 60}) {
            PumpSpells x = new PumpSpells();
            x.text(0, n);
            Checks.due("put at the first place of " + n, x.put(0, 0, 5), 1032);
            Checks.due("put at the last place of " + n, x.put(0, n - 1, 6), n == 1 ? 1005 : 1032);
            for (int i : new int[] {-1, n, n + 1, MIN, MAX}) {
                Checks.dueFinding("put at " + i + " of " + n, x, () -> x.put(0, i, 9), BEYOND);
            }
        }
        PumpSpells x = new PumpSpells();
        x.text(0, 0);
        for (int i : new int[] {-1, 0, 1}) {
            Checks.dueFinding("put at " + i + " of none", x, () -> x.put(0, i, 9), BEYOND);
        }
    }

    private static void putRefused() {
        Doc.promise(9, "BAD; NOTHING; BEYOND.");
        PumpSpells x = new PumpSpells();
        Checks.dueRefused("BAD ahead of NOTHING", x, () -> x.put(-1, 0, 0), BAD);
        Checks.dueRefused("BAD ahead of BEYOND", x, () -> x.put(4, 99, 0), BAD);
        Checks.dueFinding("NOTHING ahead of BEYOND", x, () -> x.put(2, -1, 0), NOTHING);
        Checks.dueFinding("NOTHING", x, () -> x.put(2, 0, 0), NOTHING);
    }

    // ---- 10 fault

    private static void faultOrNone() {
        Doc.promise(10, "A FAULT of a TEXT; NONE: there is none.");
        Checks.due("a FAULT at 0", faultOf("x"), 0);
        Checks.due("a FAULT at 1", faultOf("wx"), 1);
        Checks.due("a FAULT of an empty one", faultOf(""), 0);
        Checks.due("a FAULT at 59", faultOf("w305314g6" + " ".repeat(50) + "x"), 59);
        Checks.due("a FAULT at 60", faultOf("w305314g6" + " ".repeat(50) + "g"), 60);
        Checks.due("none", faultOf("w305314g6" + " ".repeat(51)), NONE);
        PumpSpells x = Checks.launch("w305314g6");
        x.act(9);
        long digest = x.digest();
        Checks.due("fault(3)", x.fault(3), NONE);
        Checks.due("the SHIP stays as it is", x.digest(), digest);
    }

    private static void faultRefused() {
        Doc.promise(10, "BAD; NOTHING.");
        PumpSpells x = new PumpSpells();
        Checks.dueRefused("BAD ahead of NOTHING", x, () -> x.fault(-1), BAD);
        Checks.dueRefused("BAD ahead of NOTHING", x, () -> x.fault(4), BAD);
        Checks.dueFinding("NOTHING", x, () -> x.fault(0), NOTHING);
        Checks.dueFinding("NOTHING", x, () -> x.fault(3), NOTHING);
    }

    // ---- 11 ship

    private static void shipTellsHowMany() {
        Doc.promise(11, "how many GANGS.");
        PumpSpells x = new PumpSpells();
        for (int n = 1; n <= 6; n++) {
            Checks.write(x, 0, "w305314" + "s1".repeat(n));
            Checks.due("ship of " + n, x.ship(0), n);
            Checks.due("count(0)", x.count(0), n);
        }
    }

    private static void shipAnew() {
        Doc.promise(11, "A SHIP by a TEXT (anew: HOUR 0, no CHOKE, the SAIL not set; kept SHIPS go)");
        PumpSpells x = Checks.launch(Checks.ALL_KINDS);
        long fresh = x.digest();
        for (int a : new int[] {1, 8, 7, 1, 4}) {
            x.act(a);
        }
        x.force(0, 1);
        for (int k = 0; k <= 2; k++) {
            x.keep(k);
        }
        Checks.due("ship anew", x.ship(3), 6);
        int[] tells = {30, 6, 3, 0, 0, 0, 0, 14, 0};
        for (int what = 0; what <= 8; what++) {
            Checks.dueTold("tell(" + what + ") anew", x, x.tell(what), tells[what]);
        }
        Checks.due("STRENGTHS and FORCES anew", x.digest(), fresh);
        Checks.due("kept SHIPS go", x.count(8), 0);
        for (int k = 0; k <= 2; k++) {
            int place = k;
            Checks.dueFinding("on(" + k + ")", x, () -> x.on(place), NOTHING);
        }
        Checks.dueRefused("no HOUR to undo", x, () -> x.undo(1), BAD);
        PumpSpells y = Checks.launch("w999002 g1");
        y.act(9);
        Checks.due("SUNK", Checks.told(y, 8), 1);
        Checks.due("ship anew", y.ship(3), 1);
        Checks.due("not SUNK", Checks.told(y, 8), 0);
    }

    private static void shipRefused() {
        Doc.promise(11, "BAD; NOTHING; STATE: a FAULT.");
        PumpSpells x = Checks.launch(Checks.ALL_KINDS);
        x.act(1);
        x.keep(0);
        Checks.dueRefused("ship(-1)", x, () -> x.ship(-1), BAD);
        Checks.dueRefused("ship(4)", x, () -> x.ship(4), BAD);
        Checks.dueFinding("ship(0)", x, () -> x.ship(0), NOTHING);
        for (String text : new String[] {"", "w305314", "w305314g6x", "w101199c1c1c1c1c1c1c1", "w101109c1c1c1c1c1c1c1"}) {
            Checks.write(x, 2, text);
            Checks.dueRefused("ship of '" + text + "'", x, () -> x.ship(2), STATE);
        }
        Checks.due("the SHIP goes on as it was", x.act(9), 33);
        Checks.due("what was kept is there", x.on(0), 1);
        Checks.due("its HOUR is undone", x.undo(0), 1);
        Checks.due("WATER at first", Checks.told(x, 0), 30);
    }

    private static void shipStateBehindNothing() {
        Doc.promise(11, "(STATE behind NOTHING.)");
        PumpSpells x = new PumpSpells();
        Checks.dueFinding("a missing TEXT has no FAULT", x, () -> x.ship(0), NOTHING);
        x.text(0, 0);
        Checks.dueRefused("an empty one has", x, () -> x.ship(0), STATE);
    }
}
