/** Promises 6 and 10: starts that find and mend, and verify. */
public final class StartTest {
    private static final Checks CHECKS = new Checks();

    public static void main(String[] args) {
        eachAlteredByteIsMended();
        bothAlteredEndsTheRows();
        whatCanNotBeIsNotRight();
        bothRightButUnlike();
        rowsBehindAGapComeBack();
        wholeSectorIsMended();
        startOfALogThatIsUp();
        startOfALogThatIsDown();
        verify();
        CHECKS.finish();
    }

    private static void eachAlteredByteIsMended() {
        for (int copy = 0; copy < 2; copy++) {
            for (int place = 64; place < 128; place++) {
                HouseLog log = Checks.synced(8, 3);
                log.poke(copy, place, 1);
                String name = "poke(" + copy + ", " + place + ", 1): ";
                boolean matters = place < 64 + 12;
                CHECKS.due(name + "verify", log.verify(), matters ? 3 + copy : 0);
                CHECKS.due(name + "start", log.start(), 3);
                CHECKS.due(name + "mended", log.count(5), matters ? 1 : 0);
                CHECKS.due(name + "alike", log.disk(0, place) == log.disk(1, place), matters);
                CHECKS.due(name + "at", log.at(1, 1), 21);
                CHECKS.due(name + "writes of syncs", log.count(6), 6);
                CHECKS.due(name + "verify behind start", log.verify(), 0);
                log.start();
                CHECKS.due(name + "mended by the latest start", log.count(5), 0);
            }
        }
    }

    private static void bothAlteredEndsTheRows() {
        for (int sector = 0; sector < 4; sector++) {
            HouseLog log = Checks.synced(8, 4);
            log.poke(0, 64 * sector + 6, 1);
            log.poke(1, 64 * sector + 7, 128);
            log.poke(1, 5, 1);
            CHECKS.due("start up to sector " + sector, log.start(), sector);
            CHECKS.due("rows", log.count(1), sector);
            CHECKS.due("acknowledged", log.count(2), sector);
            CHECKS.due("mended", log.count(5), sector == 0 ? 0 : 1);
            CHECKS.due("room", log.count(7), 6 - sector);
            CHECKS.due("verify", log.verify(), 0);
            CHECKS.due("the next row", log.end(1, false), sector);
        }
        CHECKS.due("start of an empty disk", new HouseLog(4).start(), 0);
        CHECKS.due("start of a full disk", Checks.full(4).start(), 4);
    }

    // A sector with its due sum and yet a number, kind or length that can't be.
    private static void whatCanNotBeIsNotRight() {
        int[][] heads = {{0, 1, 0, 1}, {0, 9, 40, 1}, {0, 0, 0, 0}, {0, 10, 0, 0}, {0, 255, 0, 0}, {0, 1, 41, 0}, {0, 1, 54, 0},
            {1, 1, 0, 0}, {1 << 24, 1, 0, 0}, {1 << 8, 1, 0, 0}, {-1, 1, 0, 0}};
        for (int[] h : heads) {
            for (int copy = 0; copy < 2; copy++) {
                HouseLog log = new HouseLog(4);
                Checks.put(log, copy, 0, h[0], h[1], new int[h[2]]);
                String name = "number " + h[0] + ", kind " + h[1] + ", length " + h[2] + " on copy " + copy;
                CHECKS.due("start with " + name, log.start(), h[3]);
                CHECKS.due("mended with " + name, log.count(5), h[3]);
            }
        }
        HouseLog long255 = new HouseLog(4);
        int[] head = {0, 0, 0, 0, 1, 255};
        for (int i = 0; i < head.length; i++) {
            Checks.setByte(long255, 0, i, head[i]);
        }
        CHECKS.due("start with a length of 255", long255.start(), 0);
        HouseLog last = Checks.full(4);
        Checks.setByte(last, 0, 3 * 64 + 5, 255);
        CHECKS.due("verify of a length that leads behind the disk", last.verify(), 7);
    }

    private static void bothRightButUnlike() {
        HouseLog log = new HouseLog(4);
        Checks.put(log, 0, 0, 0, 3, new int[] {1, 2});
        Checks.put(log, 1, 0, 0, 4, new int[] {9});
        CHECKS.due("start with unlike copies", log.start(), 1);
        CHECKS.due("nothing is mended", log.count(5), 0);
        CHECKS.due("the row is that of copy 0", log.look(0, 0), 3);
        CHECKS.due("its length", log.look(0, 1), 2);
        CHECKS.due("copy 1 stays", log.disk(1, 4), 4);
        CHECKS.due("verify with unlike copies", log.verify(), 0);
        log.poke(0, 6, 1);
        log.start();
        CHECKS.due("the row is that of copy 1", log.look(0, 0), 4);
        CHECKS.due("copy 0 is mended", log.disk(0, 4), 4);
        CHECKS.due("its byte", log.at(0, 0), 9);
    }

    private static void rowsBehindAGapComeBack() {
        HouseLog log = Checks.synced(8, 3);
        log.poke(0, 64, 1);
        log.poke(1, 64, 1);
        CHECKS.due("start before the gap", log.start(), 1);
        Checks.row(log, 9, 5);
        CHECKS.due("sync into the gap", log.sync(), 2);
        CHECKS.due("start over the gap", log.start(), 3);
        CHECKS.due("the row in the gap", log.look(1, 0), 9);
        CHECKS.due("the row behind the gap", log.at(2, 0), 12);
        CHECKS.due("it is acknowledged", log.look(2, 2), 1);
    }

    private static void wholeSectorIsMended() {
        HouseLog log = Checks.synced(8, 1);
        for (int place = 0; place < 64; place++) {
            log.poke(1, place, 255);
        }
        log.poke(0, 63, 7);
        CHECKS.due("start", log.start(), 1);
        for (int place = 0; place < 64; place++) {
            CHECKS.due("byte " + place + " of the mended sector", log.disk(1, place), log.disk(0, place));
        }
        CHECKS.due("the rest comes along", log.disk(1, 63), 7);
        CHECKS.due("sector 1 stays", log.disk(1, 64), 0);
    }

    private static void startOfALogThatIsUp() {
        HouseLog log = Checks.synced(8, 1);
        Checks.pend(log, 2);
        log.add(44);
        log.cut(3, 5);
        log.poke(0, 0, 1);
        CHECKS.due("start", log.start(), 1);
        CHECKS.due("mended", log.count(5), 1);
        CHECKS.due("pending is lost", log.count(1), 1);
        CHECKS.due("collected stays", log.count(3), 1);
        CHECKS.due("the next row", log.end(3, false), 1);
        CHECKS.due("its byte", log.at(1, 0), 44);
        Checks.pend(log, 1);
        CHECKS.due("the cut that was told stays", log.sync(), HouseLog.NONE);
        CHECKS.due("a mend brought it no nearer", log.count(6), 6);
    }

    private static void startOfALogThatIsDown() {
        HouseLog log = Checks.synced(8, 2);
        Checks.pend(log, 1);
        log.cut(1, 3);
        log.sync();
        CHECKS.due("poke if down", log.poke(0, 0, 1), true);
        CHECKS.due("start", log.start(), 3);
        CHECKS.due("mended", log.count(5), 2);
        CHECKS.due("a row that no sync acknowledged", log.look(2, 2), 1);
        CHECKS.due("acknowledged", log.count(2), 3);
        CHECKS.due("verify", log.verify(), 0);
    }

    private static void verify() {
        HouseLog log = new HouseLog(8);
        CHECKS.due("verify of nothing", log.verify(), 0);
        Checks.pend(log, 1);
        CHECKS.due("verify of a pending row", log.verify(), 0);
        log.sync();
        Checks.pend(log, 2);
        log.sync();
        log.poke(0, 3 * 64, 1);
        CHECKS.due("verify with a change behind the rows", log.verify(), 0);
        int[][] changes = {{1, 2}, {0, 2}, {1, 1}, {0, 1}, {1, 0}, {0, 0}};
        for (int[] c : changes) {
            log.poke(c[0], 64 * c[1] + 8, 4);
            CHECKS.due("verify", log.verify(), 1 + 2 * c[1] + c[0]);
            CHECKS.due("verify writes nothing", log.verify(), 1 + 2 * c[1] + c[0]);
        }
        HouseLog down = Checks.downLog();
        CHECKS.dueThrow("verify if down", IllegalStateException.class, () -> down.verify());
    }
}
