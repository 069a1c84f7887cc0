/** Promise 13: what can be counted. */
public final class CountTest {
    private static final Checks CHECKS = new Checks();

    public static void main(String[] args) {
        HouseLog log = new HouseLog(7);
        counts("new", log, 7, 0, 0, 0, 0, 0, 0, 5);
        Checks.pend(log, 2);
        log.add(1);
        log.add(2);
        counts("pending", log, 7, 2, 0, 2, 0, 0, 0, 3);
        log.sync();
        counts("synced", log, 7, 2, 2, 2, 0, 0, 4, 3);
        log.poke(0, 0, 1);
        log.poke(1, 64, 1);
        log.start();
        counts("mended", log, 7, 2, 2, 2, 0, 2, 4, 3);
        log.end(1, false);
        Checks.pend(log, 1);
        log.cut(2, 9);
        log.add(3);
        log.sync();
        counts("down", log, 7, HouseLog.NONE, 2, 0, 1, 2, 7, 0);
        log.start();
        counts("started", log, 7, 3, 3, 0, 0, 0, 7, 2);
        Checks.pend(log, 2);
        counts("up to the reserve", log, 7, 5, 3, 0, 0, 0, 7, 0);
        log.end(1, true);
        log.end(1, true);
        counts("full", log, 7, 7, 3, 0, 0, 0, 7, 0);
        log.sync();
        log.start();
        counts("full and started", log, 7, 7, 7, 0, 0, 0, 15, 0);
        for (int what : new int[] {Integer.MIN_VALUE, -1, 8, 9, Integer.MAX_VALUE}) {
            CHECKS.due("count(" + what + ")", log.count(what), HouseLog.NONE);
            CHECKS.due("count(" + what + ") if down", Checks.downLog().count(what), HouseLog.NONE);
        }
        CHECKS.finish();
    }

    private static void counts(String when, HouseLog log, int... want) {
        for (int what = 0; what < want.length; what++) {
            CHECKS.due(when + ": count(" + what + ")", log.count(what), want[what]);
        }
    }
}
