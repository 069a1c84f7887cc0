/** Promises 4 and 5: syncs, the form of a sector, and cuts. */
public final class SyncTest {
    private static final Checks CHECKS = new Checks();

    public static void main(String[] args) {
        formOfASector();
        restIsWrittenTo();
        syncAcknowledges();
        cutAtEachWrite();
        tornAtEachByte();
        cutCountsOverSyncs();
        cutIsUsedUp();
        cutIsReplacedOrTakenBack();
        cutWithWrongInputs();
        downLosesAndRefuses();
        CHECKS.finish();
    }

    private static void formOfASector() {
        HouseLog log = new HouseLog(6);
        Checks.row(log, 4);
        Checks.row(log, 9, 255, 0, 128);
        log.sync();
        int sum = Checks.sum(0, 0, 0, 1, 9, 3, 255, 0, 128);
        int[] want = {0, 0, 0, 1, 9, 3, 255, 0, 128, sum >>> 24, sum >>> 16 & 255, sum >>> 8 & 255, sum & 255};
        for (int copy = 0; copy < 2; copy++) {
            for (int i = 0; i < 64; i++) {
                CHECKS.due("byte " + i + " of sector 1 of copy " + copy, log.disk(copy, 64 + i), i < want.length ? want[i] : 0);
            }
            CHECKS.due("sector 2 is not written", log.disk(copy, 128 + 4), 0);
        }
        HouseLog full = new HouseLog(64);
        for (int k = 0; k < 64; k++) {
            for (int i = 0; i < 40; i++) {
                full.add(k + i);
            }
            full.end(9, true);
        }
        CHECKS.due("sync of 64 rows", full.sync(), 64);
        CHECKS.due("writes of 64 rows", full.count(6), 128);
        CHECKS.due("number of the last row", full.disk(1, 63 * 64 + 3), 63);
        CHECKS.due("its length", full.disk(1, 63 * 64 + 5), 40);
        CHECKS.due("its last byte", full.disk(1, 63 * 64 + 45), 102);
        CHECKS.due("start finds them all", full.start(), 64);
    }

    private static void restIsWrittenTo() {
        HouseLog log = new HouseLog(4);
        for (int place = 0; place < 64; place++) {
            log.poke(0, place, 255);
        }
        Checks.row(log, 1, 8);
        log.sync();
        for (int place = 11; place < 64; place++) {
            CHECKS.due("the rest's byte " + place, log.disk(0, place), 0);
        }
        log.poke(0, 4, 15);
        log.poke(1, 4, 15);
        log.start();
        Checks.row(log, 2);
        log.sync();
        for (int place = 10; place < 64; place++) {
            CHECKS.due("the rest's byte " + place + " behind a longer row", log.disk(1, place), 0);
        }
    }

    private static void syncAcknowledges() {
        HouseLog log = new HouseLog(8);
        CHECKS.due("sync of nothing", log.sync(), 0);
        Checks.pend(log, 2);
        CHECKS.due("pending", log.look(1, 2), 0);
        CHECKS.due("sync of two", log.sync(), 2);
        CHECKS.due("acknowledged", log.look(1, 2), 1);
        Checks.pend(log, 1);
        log.add(5);
        CHECKS.due("sync of a third", log.sync(), 3);
        CHECKS.due("writes", log.count(6), 6);
        CHECKS.due("collected stays", log.count(3), 1);
        log.poke(0, 0, 1);
        CHECKS.due("sync of nothing more", log.sync(), 3);
        CHECKS.due("no row is written twice", log.disk(0, 0), 1);
        CHECKS.due("no writes more", log.count(6), 6);
    }

    // Two rows are four writes; a torn write of no byte leaves the sector as it was.
    private static void cutAtEachWrite() {
        int[] found = {1, 2, 2, 3};
        int[] mended = {0, 1, 0, 1};
        for (int keep = 0; keep < 4; keep++) {
            HouseLog log = Checks.synced(8, 1);
            Checks.pend(log, 2);
            String name = "cut(" + keep + ", 0): ";
            CHECKS.due(name + "told", log.cut(keep, 0), true);
            CHECKS.due(name + "sync", log.sync(), HouseLog.NONE);
            CHECKS.due(name + "acknowledged", log.count(2), 1);
            CHECKS.due(name + "writes", log.count(6), 2 + keep + 1);
            for (int write = 0; write < 4; write++) {
                int kind = log.disk(write % 2, 64 * (1 + write / 2) + 4);
                CHECKS.due(name + "write " + write, kind != 0, write < keep);
            }
            CHECKS.due(name + "start", log.start(), found[keep]);
            CHECKS.due(name + "mended", log.count(5), mended[keep]);
        }
        HouseLog log = Checks.synced(8, 1);
        Checks.pend(log, 2);
        log.cut(4, 0);
        CHECKS.due("a cut behind the last write", log.sync(), 3);
    }

    private static void tornAtEachByte() {
        for (int tear = 0; tear < 64; tear++) {
            HouseLog log = new HouseLog(4);
            for (int place = 0; place < 64; place++) {
                log.poke(0, place, 0xA5);
            }
            for (int i = 0; i < 40; i++) {
                log.add(i + 1);
            }
            log.end(7, false);
            log.cut(0, tear);
            log.sync();
            HouseLog whole = new HouseLog(4);
            for (int i = 0; i < 40; i++) {
                whole.add(i + 1);
            }
            whole.end(7, false);
            whole.sync();
            for (int place = 0; place < 64; place++) {
                int want = place < tear ? whole.disk(0, place) : 0xA5;
                CHECKS.due("cut(0, " + tear + "): byte " + place, log.disk(0, place), want);
                CHECKS.due("cut(0, " + tear + "): byte " + place + " of copy 1", log.disk(1, place), 0);
            }
            CHECKS.due("cut(0, " + tear + "): start", log.start(), tear >= 50 ? 1 : 0);
        }
    }

    private static void cutCountsOverSyncs() {
        HouseLog log = new HouseLog(8);
        log.cut(3, 0);
        CHECKS.due("sync of nothing brings no cut nearer", log.sync(), 0);
        Checks.pend(log, 1);
        CHECKS.due("sync before the cut", log.sync(), 1);
        Checks.pend(log, 1);
        CHECKS.due("sync with the cut", log.sync(), HouseLog.NONE);
        CHECKS.due("writes", log.count(6), 4);
        CHECKS.due("start", log.start(), 2);

        HouseLog far = new HouseLog(8);
        far.cut(Integer.MAX_VALUE, 63);
        Checks.pend(far, 6);
        CHECKS.due("sync long before a cut", far.sync(), 6);
    }

    private static void cutIsUsedUp() {
        HouseLog log = Checks.downLog();
        log.start();
        Checks.pend(log, 2);
        CHECKS.due("sync behind a cut that came", log.sync(), 3);
        CHECKS.due("writes of a torn and of whole sectors", log.count(6), 7);
    }

    private static void cutIsReplacedOrTakenBack() {
        HouseLog log = new HouseLog(8);
        log.cut(0, 0);
        CHECKS.due("another cut", log.cut(2, 5), true);
        Checks.pend(log, 2);
        CHECKS.due("sync with the other cut", log.sync(), HouseLog.NONE);
        CHECKS.due("writes", log.count(6), 3);
        CHECKS.due("the other tear", log.disk(0, 64 + 4), 2);
        CHECKS.due("the byte behind the tear", log.disk(0, 64 + 5), 0);

        HouseLog back = new HouseLog(8);
        back.cut(0, 0);
        CHECKS.due("a cut taken back", back.cut(HouseLog.NONE, 63), true);
        Checks.pend(back, 1);
        CHECKS.due("sync without it", back.sync(), 1);
        CHECKS.due("no cut taken back", back.cut(HouseLog.NONE, 0), true);
    }

    private static void cutWithWrongInputs() {
        HouseLog log = new HouseLog(8);
        log.cut(1, 7);
        int[][] wrong = {{-2, 0}, {Integer.MIN_VALUE, 0}, {0, -1}, {0, 64}, {0, Integer.MIN_VALUE}, {0, Integer.MAX_VALUE},
            {-1, -1}, {-1, 64}};
        for (int[] w : wrong) {
            CHECKS.due("cut(" + w[0] + ", " + w[1] + ")", log.cut(w[0], w[1]), false);
        }
        Checks.pend(log, 1);
        CHECKS.due("sync with the cut told before", log.sync(), HouseLog.NONE);
        CHECKS.due("its keep", log.count(6), 2);
        CHECKS.due("its tear", log.disk(1, 6), 10);
        CHECKS.due("the byte behind it", log.disk(1, 7), 0);
        CHECKS.due("cut if down", log.cut(0, 0), false);
        CHECKS.due("cut(NONE, 0) if down", log.cut(HouseLog.NONE, 0), false);
        log.start();
        Checks.pend(log, 1);
        CHECKS.due("a cut told if down is none", log.sync(), 2);
    }

    private static void downLosesAndRefuses() {
        HouseLog log = Checks.synced(8, 1);
        Checks.pend(log, 2);
        log.add(1);
        log.cut(0, 0);
        log.sync();
        CHECKS.due("down", log.count(4), 1);
        CHECKS.due("what was collected", log.count(3), 0);
        CHECKS.dueThrow("sync if down", IllegalStateException.class, () -> log.sync());
        CHECKS.due("writes", log.count(6), 3);
        CHECKS.due("start", log.start(), 1);
        CHECKS.due("not down", log.count(4), 0);
        CHECKS.due("what was collected is lost", log.count(3), 0);
        CHECKS.due("what was pending is lost", log.sync(), 1);
        CHECKS.due("no writes of it", log.count(6), 3);
    }
}
