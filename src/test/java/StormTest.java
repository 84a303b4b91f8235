import java.util.Random;

/** Long runs of calls by lots, wild numbers among them: each answer is the one that Model gives. */
public final class StormTest {
    private static final int RUNS = 1200, CALLS = 512, NAMES = 43;
    /** At most so many calls are made by pairs that come true, by one turn, and by looking at all at last. */
    private static final int PAIRS = 30, TURN = 70, LAST = 10;
    private static final int[] WILD = {Integer.MIN_VALUE, Integer.MAX_VALUE, -2, -1, 0, 1, 5, 6, 7, 9, 10, 12, 13, 40, 41, 60, 61};

    private final Random lots;
    private final PumpSpells x = new PumpSpells();
    private final Model m = new Model();
    private final StringBuilder told = new StringBuilder();
    private long got;
    private long want;
    private int used = 0;

    private StormTest(long seed) {
        lots = new Random(seed);
    }

    public static void main(String[] args) {
        int runs = args.length > 0 ? Integer.parseInt(args[0]) : RUNS;
        for (int run = 0; run < runs; run++) {
            new StormTest(run).run(run);
        }
        Checks.end("StormTest");
    }

    private void run(int run) {
        while (used + TURN + LAST <= CALLS) {
            if (used == 0 || lots.nextInt(60) == 0) {
                used += launch();
            }
            // value() asks the object once, and one turn makes two calls
            used += 2;
            call(lots.nextInt(NAMES));
            Checks.due("run " + run + ", call " + used + " " + told, got, want);
            if (got != want) {
                return;
            }
        }
        compareAll(run);
    }

    private void compareAll(int run) {
        Checks.due("run " + run + ": digest", x.digest(), m.digest());
        Checks.due("run " + run + ": asked", x.asked(), m.asked());
        Checks.due("run " + run + ": upper", x.upper(), m.upper());
        Checks.due("run " + run + ": lower", x.lower(), m.lower());
        for (int f = 1; f <= 5; f++) {
            Checks.due("run " + run + ": findings", x.findings(f), m.findings(f));
        }
    }

    private int launch() {
        StringBuilder s = new StringBuilder(" ".repeat(lots.nextInt(2)));
        s.append('w').append(lots.nextInt(3)).append(lots.nextInt(10)).append(1 + lots.nextInt(9)).append(lots.nextInt(10));
        if (lots.nextInt(3) == 0) {
            s.setCharAt(s.indexOf("w") + 1, (char) ('0' + lots.nextInt(10)));
        }
        int hours = 1 + lots.nextInt(40);
        s.append(hours / 10).append(hours % 10);
        int gangs = 1 + lots.nextInt(6);
        for (int i = 0; i < gangs; i++) {
            s.append(" ".repeat(lots.nextInt(3))).append("grsflc".charAt(lots.nextInt(6))).append(1 + lots.nextInt(9));
        }
        if (lots.nextInt(8) == 0) {
            s.setCharAt(lots.nextInt(s.length()), "w0149gc x:".charAt(lots.nextInt(10)));
        }
        if (lots.nextInt(8) == 0) {
            s.setLength(lots.nextInt(s.length()));
        }
        x.text(0, s.length());
        m.text(0, s.length());
        for (int i = 0; i < s.length(); i++) {
            x.put(0, i, s.charAt(i));
            m.put(0, i, s.charAt(i));
        }
        Checks.due("fault of '" + s + "'", x.fault(0), m.fault(0));
        Checks.due("ship of '" + s + "'", x.ship(0), m.ship(0));
        return s.length() + 3;
    }

    /** A number from 0 to below n, now and then a wild one. */
    private int some(int n) {
        return lots.nextInt(25) == 0 ? WILD[lots.nextInt(WILD.length)] : lots.nextInt(n);
    }

    /** Numbers for ROWS: mostly ACTS, and WATER that may come behind them. */
    private int value() {
        switch (lots.nextInt(8)) {
            case 0:
                return x.count(1) + lots.nextInt(21) - 10;
            case 1:
                return some(100);
            default:
                return lots.nextInt(10);
        }
    }

    /** A ROW of pairs that come true, of the SHIP as it is or with one change. */
    private void soundPairs() {
        int r = lots.nextInt(6);
        int n = lots.nextInt(6);
        if (x.keep(2) != m.keep(2) || x.can() <= 0) {
            return;
        }
        int[] pairs = new int[2 * n];
        int made = 0;
        for (int i = 0; i < n && x.can() > 0; i++) {
            int a = lots.nextInt(10);
            if ((x.can() >> a & 1) != 0) {
                pairs[made++] = a;
                pairs[made++] = x.act(a);
            }
        }
        x.on(2);
        m.on(2);
        x.row(r, made);
        m.row(r, made);
        int off = lots.nextInt(4) == 0 && made > 0 ? lots.nextInt(made) | 1 : -1;
        for (int i = 0; i < made; i++) {
            int v = pairs[i] + (i == off ? lots.nextInt(7) - 3 : 0);
            x.lay(r, i, v);
            m.lay(r, i, v);
        }
    }

    private void say(String name, int... numbers) {
        told.setLength(0);
        told.append(name).append(java.util.Arrays.toString(numbers));
    }

    private void call(int name) {
        if (name < 13) {
            callRows(name);
        } else if (name < 24) {
            callHours(name);
        } else if (name < 34) {
            callRotas(name);
        } else {
            callTold(name);
        }
    }

    private void answer(long program, long model) {
        got = program;
        want = model;
    }

    private void callRows(int name) {
        int a = some(6);
        int b = some(12);
        int c = name == 1 ? value() : some(6);
        int d = some(6);
        int e = some(6);
        say("rows " + name, a, b, c, d, e);
        switch (name) {
            case 0: answer(x.row(a, b), m.row(a, b)); break;
            case 1: answer(x.lay(a, b, c), m.lay(a, b, c)); break;
            case 2: answer(x.at(a, b), m.at(a, b)); break;
            case 3: answer(x.tear(a), m.tear(a)); break;
            case 4: answer(x.copy(a, d, c, e, b), m.copy(a, d, c, e, b)); break;
            case 5: answer(x.mean(a), m.mean(a)); break;
            case 6: answer(x.text(a, b), m.text(a, b)); break;
            case 7: answer(x.put(a, b, c * 1000003), m.put(a, b, c * 1000003)); break;
            case 8: answer(x.fault(a), m.fault(a)); break;
            case 9: answer(x.ship(a), m.ship(a)); break;
            case 10: answer(x.gang(a, e), m.gang(a, e)); break;
            case 11: answer(x.mark(a, e), m.mark(a, e)); break;
            default: answer(x.force(a, b), m.force(a, b)); break;
        }
    }

    private void callHours(int name) {
        int a = some(10);
        int b = some(6);
        int small = lots.nextInt(4) == 0 ? some(6) : lots.nextInt(3);
        say("hours " + name, a, b, small);
        switch (name) {
            case 13: answer(x.tell(a), m.tell(a)); break;
            case 14: answer(x.can(), m.can()); break;
            case 15:
            case 16: answer(x.act(a), m.act(a)); break;
            case 17: answer(x.undo(a), m.undo(a)); break;
            case 18: answer(x.keep(small), m.keep(small)); break;
            case 19: answer(x.on(small), m.on(small)); break;
            case 20: answer(x.run(b), m.run(b)); break;
            case 21: answer(x.best(small, b), m.best(small, b)); break;
            case 22: answer(x.afloat(small), m.afloat(small)); break;
            default: answer(x.firsts(small), m.firsts(small)); break;
        }
    }

    private void callRotas(int name) {
        int a = some(10);
        int b = some(6);
        int c = some(22);
        int small = lots.nextInt(8) == 0 ? some(6) : lots.nextInt(3);
        say("rotas " + name, a, b, c, small);
        if (name >= 31 && lots.nextInt(4) != 0) {
            used += PAIRS;
            soundPairs();
        }
        switch (name) {
            case 24: answer(x.rota(b), m.rota(b)); break;
            case 25: answer(x.watch(small, b), m.watch(small, b)); break;
            case 26: answer(x.lasts(a), m.lasts(a)); break;
            case 27: answer(x.inches(a, b, c), m.inches(a, b, c)); break;
            case 28: answer(x.lighten(a), m.lighten(a)); break;
            case 29: answer(x.rest(b), m.rest(b)); break;
            case 30: answer(x.gains(b), m.gains(b)); break;
            case 31: answer(x.feigns(b), m.feigns(b)); break;
            case 32: answer(x.kinds(small, b), m.kinds(small, b)); break;
            default: answer(x.leaks(b), m.leaks(b)); break;
        }
    }

    private void callTold(int name) {
        int a = some(10);
        int b = some(9);
        int c = some(13);
        int seed = lots.nextInt(4) == 0 ? some(9) : lots.nextInt();
        say("told " + name, a, b, c, seed);
        switch (name) {
            case 34: answer(x.odds(a, b, c), m.odds(a, b, c)); break;
            case 35: answer(x.mid(a, b, c), m.mid(a, b, c)); break;
            case 36: answer(x.lots(b, seed), m.lots(b, seed)); break;
            case 37: answer(x.asked(), m.asked()); break;
            case 38: answer(x.upper(), m.upper()); break;
            case 39: answer(x.lower(), m.lower()); break;
            case 40: answer(x.count(b), m.count(b)); break;
            case 41: answer(x.finding() * 1000L + x.findings(a), m.finding() * 1000L + m.findings(a)); break;
            default: answer(x.digest(), m.digest()); break;
        }
    }
}
