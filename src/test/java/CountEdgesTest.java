/** The edges that promise 13 names: each what has a test of its own, told with its words. */
public final class CountEdgesTest {
    private static final Checks CHECKS = new Checks();

    public static void main(String[] args) {
        sectors();
        rows();
        acknowledged();
        collected();
        down();
        mended();
        writes();
        room();
        another();
        CHECKS.finish();
    }

    private static void sectors() {
        CHECKS.sentence("Promise 13: what 0: sectors");
        CHECKS.due("too few", new HouseLog(3).count(0), 4);
        CHECKS.due("too many", new HouseLog(65).count(0), 64);
        CHECKS.due("full", Checks.full(5).count(0), 5);
        CHECKS.due("down", Checks.downLog().count(0), 8);
    }

    private static void rows() {
        CHECKS.sentence("Promise 13: 1: rows (NONE if DOWN)");
        HouseLog log = new HouseLog(4);
        CHECKS.due("new", log.count(1), 0);
        log.end(1, false);
        CHECKS.due("one pending", log.count(1), 1);
        CHECKS.due("full", Checks.full(64).count(1), 64);
        HouseLog down = Checks.downLog();
        CHECKS.due("down", down.count(1), HouseLog.NONE);
        down.start();
        CHECKS.due("started", down.count(1), 1);
        HouseLog empty = new HouseLog(4);
        empty.end(1, false);
        empty.cut(0, 0);
        empty.sync();
        CHECKS.due("down without a row", empty.count(1), HouseLog.NONE);
    }

    private static void acknowledged() {
        CHECKS.sentence("Promise 13: 2: ACKNOWLEDGED (as of the latest sync or start)");
        HouseLog log = new HouseLog(8);
        CHECKS.due("new", log.count(2), 0);
        Checks.pend(log, 2);
        CHECKS.due("two pending", log.count(2), 0);
        log.sync();
        CHECKS.due("synced", log.count(2), 2);
        Checks.pend(log, 1);
        log.poke(0, 0, 1);
        log.poke(1, 0, 1);
        CHECKS.due("a third pending, the first lost on the disk", log.count(2), 2);
        log.cut(1, 0);
        log.sync();
        CHECKS.due("down", log.count(2), 2);
        log.start();
        CHECKS.due("started with nothing found", log.count(2), 0);
        CHECKS.due("full", Checks.full(64).count(2), 64);
    }

    private static void collected() {
        CHECKS.sentence("Promise 13: 3: collected");
        HouseLog log = new HouseLog(4);
        CHECKS.due("new", log.count(3), 0);
        for (int i = 1; i <= 42; i++) {
            log.add(i);
            CHECKS.due("behind add " + i, log.count(3), Math.min(i, 40));
        }
        log.sync();
        log.start();
        CHECKS.due("behind sync and start", log.count(3), 40);
        log.end(1, false);
        CHECKS.due("ended", log.count(3), 0);
        log.add(1);
        log.cut(0, 0);
        log.sync();
        CHECKS.due("down", log.count(3), 0);
    }

    private static void down() {
        CHECKS.sentence("Promise 13: 4: 1 if DOWN");
        HouseLog log = Checks.synced(8, 1);
        CHECKS.due("up", log.count(4), 0);
        log.cut(0, 0);
        CHECKS.due("a cut told", log.count(4), 0);
        log.sync();
        CHECKS.due("a sync without a write", log.count(4), 0);
        Checks.pend(log, 1);
        log.sync();
        CHECKS.due("cut", log.count(4), 1);
        log.start();
        CHECKS.due("started", log.count(4), 0);
    }

    private static void mended() {
        CHECKS.sentence("Promise 13: 5: sectors MENDED by the latest start");
        HouseLog log = Checks.full(4);
        CHECKS.due("never started", log.count(5), 0);
        for (int sector = 0; sector < 4; sector++) {
            log.poke(sector % 2, 64 * sector, 1);
        }
        CHECKS.due("altered", log.count(5), 0);
        log.start();
        CHECKS.due("each sector mended", log.count(5), 4);
        log.sync();
        CHECKS.due("behind a sync", log.count(5), 4);
        log.poke(0, 0, 1);
        log.start();
        CHECKS.due("one mended", log.count(5), 1);
        log.start();
        CHECKS.due("none mended", log.count(5), 0);
        log.poke(1, 0, 1);
        log.start();
        log.poke(0, 0, 1);
        log.poke(1, 0, 1);
        log.start();
        CHECKS.due("none found", log.count(5), 0);

        HouseLog down = Checks.synced(8, 1);
        down.poke(0, 0, 1);
        down.start();
        Checks.pend(down, 1);
        down.cut(0, 0);
        down.sync();
        CHECKS.due("down", down.count(5), 1);
    }

    private static void writes() {
        CHECKS.sentence("Promise 13: 6: writes of sectors of all syncs so far (a torn one counts)");
        HouseLog log = new HouseLog(8);
        CHECKS.due("new", log.count(6), 0);
        log.sync();
        CHECKS.due("a sync of nothing", log.count(6), 0);
        Checks.pend(log, 2);
        CHECKS.due("pending", log.count(6), 0);
        log.sync();
        CHECKS.due("a sync of two", log.count(6), 4);
        log.poke(0, 0, 1);
        log.start();
        CHECKS.due("a mend is none of a sync", log.count(6), 4);
        Checks.pend(log, 1);
        log.cut(0, 0);
        log.sync();
        CHECKS.due("one torn, no byte of it written", log.count(6), 5);
        log.start();
        CHECKS.due("started", log.count(6), 5);
        Checks.pend(log, 1);
        log.cut(1, 63);
        log.sync();
        CHECKS.due("one whole, one torn", log.count(6), 7);
        CHECKS.due("a full disk", Checks.full(64).count(6), 128);
    }

    private static void room() {
        CHECKS.sentence("Promise 13: 7: rows that find room yet that are no RELEASE (0 if DOWN)");
        HouseLog log = new HouseLog(4);
        CHECKS.due("new", log.count(7), 2);
        log.end(1, false);
        CHECKS.due("one pending", log.count(7), 1);
        log.end(1, true);
        CHECKS.due("a release takes of it, too", log.count(7), 0);
        log.end(1, true);
        CHECKS.due("in the reserve", log.count(7), 0);
        log.end(1, true);
        CHECKS.due("full", log.count(7), 0);
        log.start();
        CHECKS.due("what was pending is lost", log.count(7), 2);
        CHECKS.due("the most", new HouseLog(64).count(7), 62);
        CHECKS.due("full with 64 sectors", Checks.full(64).count(7), 0);
        HouseLog down = Checks.downLog();
        CHECKS.due("down", down.count(7), 0);
        down.start();
        CHECKS.due("started", down.count(7), 5);
    }

    private static void another() {
        CHECKS.sentence("Promise 13: NONE for another what");
        HouseLog up = Checks.synced(4, 1);
        HouseLog down = Checks.downLog();
        for (int what : new int[] {Integer.MIN_VALUE, -2, -1, 8, 9, 256, 263, Integer.MAX_VALUE}) {
            CHECKS.refused("count(" + what + ")", up, HouseLog.NONE, () -> up.count(what));
            CHECKS.refused("count(" + what + ") if down", down, HouseLog.NONE, () -> down.count(what));
        }
    }
}
