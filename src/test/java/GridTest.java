import java.lang.reflect.Method;
import java.util.Arrays;
import java.util.HashMap;
import java.util.Map;

/** Every call by every choice of numbers at the bounds, in states at the bounds: as Model answers and is behind it. */
public final class GridTest {
    private static final int MIN = Integer.MIN_VALUE, MAX = Integer.MAX_VALUE;
    private static final int[] ROWS = {-1, 0, 1, 2, 3, 4, 5, 6}, TEXTS = {-1, 0, 1, 2, 3, 4}, FEW_ROWS = {-1, 0, 3, 5, 6};
    private static final int[] GANGS = {-1, 0, 1, 5, 6}, ACTS = {-1, 0, 1, 5, 6, 7, 8, 9, 10};
    private static final int[] PLACES = {-1, 0, 1, 2, 39, 40, MIN, MAX}, FEW_PLACES = {-1, 0, 1, 2, MAX};
    private static final int[] VALUES = {MIN, -129, -128, -1, 0, 127, 128, 255, MAX};

    private static final String[] SHIPS = {
        "", "w305314 g6 r9 s4 f5 l7 c3", "w991001 g1", "w001040 c9", "w951902 r4 l4", "w961202 f1 s1", "w509003 r9 s9 g2",
    };
    private static final int[][] HOURS = {{}, {9}, {0, 8}, {1, 7, 6, 1, 1}, {0, 0, 0, 0}, {0, 0, 0, 0, 0}};

    private final Map<String, Method> calls = new HashMap<>();
    private String ship = "";
    private int[] hours = {};

    public static void main(String[] args) throws Exception {
        new GridTest().run();
        Checks.end("GridTest");
    }

    private GridTest() {
        for (Class<?> c : new Class<?>[] {PumpSpells.class, Model.class}) {
            for (Method m : c.getDeclaredMethods()) {
                if (m.getParameterCount() == 0 || m.getParameterTypes()[0] == int.class) {
                    m.setAccessible(true);
                    calls.put(c.getName() + " " + m.getName() + " " + m.getParameterCount(), m);
                }
            }
        }
    }

    private void run() throws Exception {
        for (String text : SHIPS) {
            for (int[] acts : HOURS) {
                if (!text.isEmpty() || acts.length == 0) {
                    ship = text;
                    hours = acts;
                    rowsAndTexts();
                    gangsAndHours();
                    plansAndRotas();
                    soundedAndChance();
                }
            }
        }
    }

    private void rowsAndTexts() throws Exception {
        all("row", ROWS, new int[] {-1, 0, 1, 40, 41, MIN, MAX});
        all("lay", FEW_ROWS, PLACES, new int[] {MIN, 0, MAX});
        all("at", ROWS, PLACES);
        all("tear", ROWS);
        if (ship.isEmpty()) {
            all("copy", FEW_ROWS, FEW_PLACES, FEW_ROWS, FEW_PLACES, new int[] {-1, 0, 1, 2, 40, MAX});
        }
        all("mean", ROWS);
        all("text", TEXTS, new int[] {-1, 0, 1, 60, 61, MIN, MAX});
        all("put", TEXTS, new int[] {-1, 0, 8, 60, MIN, MAX}, VALUES);
        all("fault", TEXTS);
        all("ship", TEXTS);
    }

    private void gangsAndHours() throws Exception {
        all("gang", GANGS, new int[] {-1, 0, 1, 2, 3, 4, 5});
        all("mark", GANGS, new int[] {-1, 0, 1, 2, 3, 4, 5, 6});
        all("force", GANGS, new int[] {-1, 0, 1, 5, 9, 10});
        all("tell", new int[] {-1, 0, 1, 2, 3, 4, 5, 6, 7, 8, 9});
        all("can");
        all("act", ACTS);
        all("undo", new int[] {-1, 0, 1, 2, 3, 4, 5, 6, MIN, MAX});
        all("keep", new int[] {-1, 0, 1, 2, 3});
        all("on", new int[] {-1, 0, 1, 2, 3});
        all("count", new int[] {-1, 0, 1, 2, 3, 4, 5, 6, 7, 8, 9});
        all("findings", new int[] {-1, 0, 1, 2, 3, 4, 5, 6});
    }

    private void plansAndRotas() throws Exception {
        all("run", ROWS);
        all("best", new int[] {-1, 0, 1, 2, 3}, new int[] {-1, 3, 6});
        all("best", new int[] {4, 5}, new int[] {0});
        all("afloat", new int[] {-1, 0, 1, 2, 3, 5});
        all("firsts", new int[] {0, 1, 2, 3, 5});
        all("rota", ROWS);
        all("watch", new int[] {0, 1, 2, 4}, new int[] {-1, 3, 6});
        all("watch", new int[] {3}, new int[] {0});
        all("lasts", ACTS);
        all("inches", ACTS, ACTS, new int[] {-1, 0, 1, 2, 19, 20, 21});
        all("lighten", ACTS);
        all("rest", GANGS);
    }

    private void soundedAndChance() throws Exception {
        all("gains", ROWS);
        all("feigns", ROWS);
        all("kinds", GANGS, ROWS);
        all("leaks", ROWS);
        all("odds", ACTS, new int[] {-1, 0, 1, 2, 9}, new int[] {-1, 0, 1, 11, 12, 13});
        all("odds", new int[] {0, 1}, new int[] {7, 8}, new int[] {1, 7});
        all("mid", ACTS, new int[] {-1, 0, 1, 2, 9}, new int[] {-1, 0, 1, 11, 12, 13});
        all("mid", new int[] {0, 1}, new int[] {7, 8}, new int[] {1, 7});
        all("lots", new int[] {0, 1, 2, 20, 21}, new int[] {MIN, -1, 0, 1, 48271, MAX - 1, MAX});
    }

    private void all(String name, int[]... choices) throws Exception {
        int many = 1;
        for (int[] c : choices) {
            many *= c.length;
        }
        for (int n = 0; n < many; n++) {
            int[] numbers = new int[choices.length];
            for (int i = 0, left = n; i < choices.length; i++) {
                numbers[i] = choices[i][left % choices[i].length];
                left /= choices[i].length;
            }
            compare(name, numbers);
        }
    }

    private void compare(String name, int... numbers) throws Exception {
        PumpSpells x = new PumpSpells();
        Model m = new Model();
        prepare(x);
        prepare(m);
        String what = "'" + ship + "' " + Arrays.toString(hours) + " " + name + Arrays.toString(numbers);
        Checks.due(what, call(x, name, numbers), call(m, name, numbers));
        for (String told : new String[] {"digest", "asked", "upper", "lower", "finding"}) {
            Checks.due(what + ": " + told, call(x, told), call(m, told));
        }
        for (int f = 1; f <= 5; f++) {
            Checks.due(what + ": findings", x.findings(f), m.findings(f));
        }
    }

    private long call(Object o, String name, int... numbers) throws Exception {
        Method m = calls.get(o.getClass().getName() + " " + name + " " + numbers.length);
        Object[] boxed = new Object[numbers.length];
        for (int i = 0; i < numbers.length; i++) {
            boxed[i] = numbers[i];
        }
        return ((Number) m.invoke(o, boxed)).longValue();
    }

    /** ROWS of ACTS, of pairs, of far numbers and of none; ROW 3 and TEXT 2 are missing; two SHIPS are kept. */
    private void prepare(Object o) throws Exception {
        row(o, 0, 9, 36);
        row(o, 1, 0, 1, 7, 8);
        row(o, 2, MAX, MIN, MAX);
        row(o, 4, 10);
        call(o, "row", 5, 0);
        call(o, "text", 1, 9);
        text(o, 3, "w305314 g6 g7");
        if (!ship.isEmpty()) {
            text(o, 0, ship);
            call(o, "ship", 0);
            call(o, "keep", 0);
            for (int a : hours) {
                call(o, "act", a);
            }
            call(o, "keep", 2);
            call(o, "odds", 0, 1, 5);
            call(o, "tell", 0);
        }
    }

    private void row(Object o, int r, int... values) throws Exception {
        call(o, "row", r, values.length);
        for (int i = 0; i < values.length; i++) {
            call(o, "lay", r, i, values[i]);
        }
    }

    private void text(Object o, int t, String text) throws Exception {
        call(o, "text", t, text.length());
        for (int i = 0; i < text.length(); i++) {
            call(o, "put", t, i, text.charAt(i));
        }
    }
}
