import java.lang.management.ManagementFactory;

/** All calls of a run live in one room: what an object makes it makes at first, and it is little. */
public final class RoomTest {
    private static final int OBJECT_BYTES = 20000, CALLS = 512 - 50, CALL_BYTES = 20000;

    public static void main(String[] args) {
        com.sun.management.ThreadMXBean room = (com.sun.management.ThreadMXBean) ManagementFactory.getThreadMXBean();
        dearest(ship());
        PumpSpells x = ship();
        long before = room.getCurrentThreadAllocatedBytes();
        PumpSpells made = new PumpSpells();
        long between = room.getCurrentThreadAllocatedBytes();
        dearest(x);
        long behind = room.getCurrentThreadAllocatedBytes();
        Checks.due("used", made.count(0), 0);
        Checks.due("bytes of an object: " + (between - before), between - before <= OBJECT_BYTES ? 1 : 0, 1);
        Checks.due("bytes of its calls: " + (behind - between), behind - between <= CALL_BYTES ? 1 : 0, 1);
        Checks.end("RoomTest");
    }

    private static PumpSpells ship() {
        PumpSpells x = Checks.launch("w101940 g6 r9 s4 f5 l7 c3");
        Checks.fill(x, 0, 0, 1, 2);
        Checks.fill(x, 1, 9, 11, 9, 12);
        return x;
    }

    /** As many calls as an object is used for, with those of ship(); no dear one left out. */
    private static void dearest(PumpSpells x) {
        for (int n = 0; n + 24 <= CALLS; n += 24) {
            x.best(4, 2);
            x.afloat(4);
            x.firsts(4);
            x.watch(3, 3);
            x.rota(0);
            x.run(0);
            x.lasts(0);
            x.inches(0, 1, 20);
            x.lighten(0);
            x.feigns(1);
            x.kinds(0, 1);
            x.leaks(1);
            x.odds(0, 8, 5);
            x.mid(0, 8, 5);
            x.keep(1);
            x.lots(20, 7);
            x.on(1);
            x.act(0);
            x.undo(0);
            x.ship(3);
            x.row(5, 40);
            x.text(2, 60);
            x.copy(5, 0, 5, 1, 39);
            x.digest();
        }
    }
}
