/** What the tests share: counting wrong answers, and short ways to write TEXTS and ROWS. */
final class Checks {
    /** The SHIP of most tests: WATER 30, LEAK 5, CARGO 3, 14 HOURS, one GANG of each KIND. */
    static final String ALL_KINDS = "w305314 g6 r9 s4 f5 l7 c3";

    /** So many plans or rotas are tried on one object: it is used for at most 512 calls. */
    static final int TURN = 50;

    private static final int[] FAR = {Integer.MIN_VALUE, Integer.MAX_VALUE};

    private static int wrong = 0;
    private static int made = 0;
    private static String sentence = "";

    private Checks() {
    }

    static void due(String call, long got, long want) {
        made++;
        if (got != want) {
            wrong++;
            System.out.println(sentence + call + " answered " + got + ", due is " + want);
        }
    }

    /** What follows holds these words of the document; a wrong answer is printed behind them. */
    static void holds(String words) {
        sentence = "'" + words + "': ";
    }

    static void write(PumpSpells x, int t, String text) {
        due("text(" + t + ", " + text.length() + ")", x.text(t, text.length()), text.length());
        for (int i = 0; i < text.length(); i++) {
            due("put of a blank", x.put(t, i, text.charAt(i)), 1032);
        }
    }

    /** A SHIP by TEXT 3, so that the tests have the others. */
    static PumpSpells launch(String text) {
        PumpSpells x = new PumpSpells();
        relaunch(x, text);
        return x;
    }

    static void relaunch(PumpSpells x, String text) {
        write(x, 3, text);
        due("fault of '" + text + "'", x.fault(3), PumpSpells.NONE);
        if (x.ship(3) < 1) {
            due("ship of '" + text + "'", 0, 1);
        }
    }

    static void fill(PumpSpells x, int r, int... values) {
        due("row(" + r + ")", x.row(r, values.length), values.length);
        for (int i = 0; i < values.length; i++) {
            due("lay", x.lay(r, i, values[i]), 1);
        }
    }

    static void dueRow(String what, PumpSpells x, int r, int... values) {
        for (int i = 0; i < values.length; i++) {
            due(what + ": at(" + r + ", " + i + ")", x.at(r, i), 1);
            due(what + ": place " + i, x.asked(), values[i]);
        }
        due(what + ": at its size", x.at(r, values.length), PumpSpells.FINDING);
        due(what + ": finding at its size", x.finding(), 2);
    }

    /** A call is refused with a FINDING: that one, once more, and nothing else is changed. */
    static void dueFinding(String call, PumpSpells x, java.util.function.IntSupplier made, int finding) {
        int before = x.findings(finding);
        int asked = x.asked();
        long upper = x.upper();
        long lower = x.lower();
        long digest = x.digest();
        due(call, made.getAsInt(), PumpSpells.FINDING);
        due(call + ": finding()", x.finding(), finding);
        due(call + ": findings(" + finding + ")", x.findings(finding), before + 1);
        dueUnchanged(call, x, asked, upper, lower, digest);
    }

    /** A call is refused with BAD or STATE: nothing is changed, the FINDINGS neither. */
    static void dueRefused(String call, PumpSpells x, java.util.function.IntSupplier made, int answer) {
        int finding = x.finding();
        int asked = x.asked();
        long upper = x.upper();
        long lower = x.lower();
        long digest = x.digest();
        int all = allFindings(x);
        due(call, made.getAsInt(), answer);
        due(call + ": finding()", x.finding(), finding);
        due(call + ": findings()", allFindings(x), all);
        dueUnchanged(call, x, asked, upper, lower, digest);
    }

    private static void dueUnchanged(String call, PumpSpells x, int asked, long upper, long lower, long digest) {
        due(call + ": asked()", x.asked(), asked);
        due(call + ": upper()", x.upper(), upper);
        due(call + ": lower()", x.lower(), lower);
        due(call + ": digest()", x.digest(), digest);
    }

    /** Numbers from low to high are not BAD; those below and above are, and change nothing. */
    static void dueRange(String call, PumpSpells x, java.util.function.IntUnaryOperator made, int low, int high) {
        dueBad(call, x, made, low - 1, high + 1);
        dueBad(call, x, made, FAR);
        for (int v : new int[] {low, high}) {
            due(call + " by " + v + " is not BAD", made.applyAsInt(v) == PumpSpells.BAD ? 1 : 0, 0);
        }
    }

    static void dueBad(String call, PumpSpells x, java.util.function.IntUnaryOperator made, int... numbers) {
        for (int v : numbers) {
            dueRefused(call + " by " + v, x, () -> made.applyAsInt(v), PumpSpells.BAD);
        }
    }

    static int allFindings(PumpSpells x) {
        int sum = 0;
        for (int f = 1; f <= 5; f++) {
            sum += x.findings(f);
        }
        return sum;
    }

    static void dueTold(String what, PumpSpells x, int answer, int asked) {
        due(what, answer, 1);
        due(what + ": asked()", x.asked(), asked);
    }

    static void dueChance(String what, PumpSpells x, int answer, long upper, long lower) {
        due(what, answer, 1);
        due(what + ": upper()", x.upper(), upper);
        due(what + ": lower()", x.lower(), lower);
    }

    static int told(PumpSpells x, int what) {
        due("tell(" + what + ")", x.tell(what), 1);
        return x.asked();
    }

    static int ofGang(PumpSpells x, int i, int what) {
        due("gang(" + i + ", " + what + ")", x.gang(i, what), 1);
        return x.asked();
    }

    static void end(String test) {
        System.out.println(test + ": " + made + " answers looked at, " + wrong + " wrong");
        if (wrong != 0) {
            System.exit(1);
        }
    }
}
