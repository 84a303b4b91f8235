/** Promises 38 to 44. */
public final class ToldTest {
    private static final int BAD = PumpSpells.BAD;

    public static void main(String[] args) {
        askedBefore();
        asked();
        upperAndLower();
        count();
        findings();
        digestOfNone();
        digest();
        Checks.end("ToldTest");
    }

    private static void askedBefore() {
        PumpSpells x = new PumpSpells();
        Checks.due("asked()", x.asked(), 0);
        Checks.due("upper()", x.upper(), 0);
        Checks.due("lower()", x.lower(), 1);
        Checks.due("finding()", x.finding(), 0);
        for (int f = 1; f <= 5; f++) {
            Checks.due("findings(" + f + ")", x.findings(f), 0);
        }
    }

    private static void asked() {
        PumpSpells x = Checks.launch("w205302 g6 r9");
        Checks.fill(x, 0, 9, 9);
        Checks.dueTold("lay", x, x.lay(0, 1, 8), 9);
        Checks.dueTold("at", x, x.at(0, 1), 8);
        Checks.dueTold("gang", x, x.gang(1, 3), 9);
        Checks.dueTold("mean", x, x.mean(0), 8);
        Checks.dueTold("tell", x, x.tell(1), 5);
        Checks.due("run", x.run(0), 2);
        Checks.due("run: asked()", x.asked(), 31);
        Checks.due("rota", x.rota(0), 31);
        Checks.due("rota: asked()", x.asked(), 2);
        Checks.dueTold("inches", x, x.inches(1, 9, 1), 9);
        Checks.fill(x, 1, 9, 25);
        Checks.due("feigns", x.feigns(1), 3);
        Checks.due("feigns: asked()", x.asked(), 1);
        Checks.due("a refused one", x.at(5, 0), PumpSpells.FINDING);
        Checks.due("asked() behind it", x.asked(), 1);
        othersTellNothing(x);
        PumpSpells y = Checks.launch("w909001 g1");
        Checks.fill(y, 0, 9);
        Checks.due("rota, NONE", y.rota(0), PumpSpells.NONE);
        Checks.due("rota, NONE: asked()", y.asked(), 1);
    }

    private static void othersTellNothing(PumpSpells x) {
        x.tell(0);
        int asked = x.asked();
        x.mark(1, 1);
        x.rest(1);
        x.best(2, 2);
        x.afloat(2);
        x.firsts(2);
        x.watch(1, 2);
        x.lasts(0);
        x.lighten(9);
        x.gains(0);
        x.kinds(0, 1);
        x.leaks(1);
        x.odds(0, 2, 3);
        x.mid(0, 2, 3);
        x.count(1);
        x.digest();
        x.can();
        x.force(0, 5);
        x.keep(0);
        x.act(9);
        x.on(0);
        x.copy(0, 0, 1, 0, 1);
        x.tear(1);
        x.put(3, 0, 119);
        Checks.due("asked() behind others", x.asked(), asked);
    }

    private static void upperAndLower() {
        PumpSpells x = Checks.launch("w973009 g6");
        Checks.dueChance("odds", x, x.odds(0, 1, 3), 3, 4);
        Checks.dueChance("mid", x, x.mid(0, 1, 3), 391, 4);
        Checks.dueChance("afloat", x, x.afloat(1), 1, 1);
        Checks.due("refused", x.odds(0, 1, 13), BAD);
        Checks.due("upper() stays", x.upper(), 1);
        Checks.dueChance("odds of none", x, x.odds(0, 1, 12), 0, 1);
    }

    private static void count() {
        PumpSpells x = Checks.launch("w205305 g6 r9 l3 s2 c1 r1");
        x.row(0, 3);
        x.row(4, 0);
        x.row(5, 0);
        x.text(0, 0);
        x.act(1);
        x.keep(0);
        x.keep(2);
        int[] counts = {6, 16, 1, 18, 3, 2, 3, 2, 2};
        for (int what = 0; what <= 8; what++) {
            Checks.due("count(" + what + ")", x.count(what), counts[what]);
        }
        Checks.due("the first gang is racing", Checks.launch("w205305 l1 s2").count(4), 1);
        Checks.due("the first gang is sung", Checks.launch("w205305 c1 r2").count(5), 1);
        Checks.dueRefused("count(-1)", x, () -> x.count(-1), BAD);
        Checks.dueRefused("count(9)", x, () -> x.count(9), BAD);
    }

    private static void findings() {
        PumpSpells x = Checks.launch("w205305 g6");
        x.row(0, 0);
        int[] often = {0, 3, 2, 4, 1, 5};
        for (int i = 0; i < 5; i++) {
            if (i < often[1]) {
                Checks.dueFinding("nothing", x, () -> x.at(1, 0), 1);
            }
            if (i < often[2]) {
                Checks.dueFinding("beyond", x, () -> x.at(0, 0), 2);
            }
            if (i < often[3]) {
                Checks.dueFinding("unlike", x, () -> x.mark(0, 1), 3);
            }
            if (i < often[4]) {
                Checks.dueFinding("nought", x, () -> x.mean(0), 4);
            }
            Checks.dueFinding("size", x, () -> x.row(0, -1), 5);
        }
        for (int f = 1; f <= 5; f++) {
            Checks.due("findings(" + f + ")", x.findings(f), often[f]);
        }
        Checks.due("finding() stays behind an answer", x.row(0, 0), 0);
        Checks.due("finding()", x.finding(), 5);
        Checks.dueRefused("findings(0)", x, () -> x.findings(0), BAD);
        Checks.dueRefused("findings(6)", x, () -> x.findings(6), BAD);
    }

    private static long digestOf(long... values) {
        long h = 17;
        for (long v : values) {
            h = 31 * h + v;
        }
        return h;
    }

    private static void digestOfNone() {
        Checks.due("digest of none", new PumpSpells().digest(),
            digestOf(0, 0, 0, 0, 0, 0, 0, 0, 0, -1, -1, -1, -1, -1, -1, -1, -1, -1, -1, -1, -1, -1));
    }

    private static void digest() {
        PumpSpells x = new PumpSpells();
        Checks.write(x, 2, "w205305 g6 r9");
        x.ship(2);
        x.act(1);
        x.keep(1);
        Checks.fill(x, 3, 7, -8);
        x.row(5, 0);
        x.text(0, 2);
        x.put(0, 1, 200);
        Checks.due("digest", x.digest(), digestOf(
            2, 16, 1, 11, 1, 0, 2, 2, 1,
            16, 5, 3, 0, 0, 2, 1, 4, 0,
            0, 6, 6, 6, 4,
            1, 9, 5, 9, 1,
            -1, 1, -1,
            -1, -1, -1, 2, 7, -8, -1, 0,
            2, 32, -56, -1,
            13, 119, 50, 48, 53, 51, 48, 53, 32, 103, 54, 32, 114, 57,
            -1));
    }
}
