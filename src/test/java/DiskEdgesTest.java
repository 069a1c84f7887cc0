/** The edges that promises 4 to 8 and 10 name: each sentence has a test of its own, told with its words. */
public final class DiskEdgesTest {
    private static final int LEAST = Integer.MIN_VALUE;
    private static final int MOST = Integer.MAX_VALUE;
    private static final int[] NO_COPIES = {LEAST, -2, -1, 2, 3, 256, MOST};
    private static final Checks CHECKS = new Checks();

    public static void main(String[] args) {
        syncTellsAcknowledged();
        syncWithACut();
        syncIfDown();
        cutInPlaceOfAnother();
        cutNoneAnyMore();
        cutIfDown();
        cutBelowNone();
        cutOfNoTear();
        startTellsRows();
        pokeAlters();
        pokeOfNoCopy();
        pokeOfNoPlace();
        pokeOfNoMask();
        diskTellsBytes();
        diskOfNoCopy();
        diskOfNoPlace();
        verifyIfRight();
        verifyTellsTheFirst();
        verifyIfDown();
        CHECKS.finish();
    }

    private static void syncTellsAcknowledged() {
        CHECKS.sentence("Promise 4: how many rows are ACKNOWLEDGED");
        HouseLog log = new HouseLog(64);
        CHECKS.refused("sync of a new log", log, 0, () -> log.sync());
        log.add(1);
        CHECKS.refused("sync of what is only collected", log, 0, () -> log.sync());
        log.end(1, false);
        CHECKS.due("sync of one", log.sync(), 1);
        CHECKS.refused("sync of no more", log, 1, () -> log.sync());
        for (int k = 1; k < 64; k++) {
            log.end(1, true);
        }
        CHECKS.due("sync of a full disk", log.sync(), 64);
        CHECKS.refused("sync of no more on a full disk", log, 64, () -> log.sync());
        CHECKS.due("writes", log.count(6), 128);
    }

    private static void syncWithACut() {
        CHECKS.sentence("Promise 4: NONE if a CUT came (it is DOWN then)");
        for (int keep = 0; keep < 8; keep++) {
            HouseLog log = new HouseLog(4);
            for (int k = 0; k < 4; k++) {
                log.end(1, true);
            }
            log.cut(keep, 0);
            CHECKS.due("cut(" + keep + ", 0): sync", log.sync(), HouseLog.NONE);
            CHECKS.due("cut(" + keep + ", 0): down", log.count(4), 1);
            CHECKS.due("cut(" + keep + ", 0): writes", log.count(6), keep + 1);
            CHECKS.due("cut(" + keep + ", 0): start", log.start(), (keep + 1) / 2);
        }
        HouseLog behind = new HouseLog(4);
        behind.end(1, true);
        behind.cut(2, 0);
        CHECKS.due("a cut behind all writes did not come", behind.sync(), 1);
        CHECKS.due("it is not down", behind.count(4), 0);
        HouseLog none = Checks.synced(4, 1);
        none.cut(0, 0);
        CHECKS.refused("a cut does not come where nothing is written", none, 1, () -> none.sync());
    }

    private static void syncIfDown() {
        CHECKS.sentence("Promise 4: IllegalStateException if it is DOWN");
        HouseLog log = Checks.downLog();
        CHECKS.refusedThrow("sync", log, IllegalStateException.class, () -> log.sync());
        CHECKS.refusedThrow("another sync", log, IllegalStateException.class, () -> log.sync());
        log.start();
        CHECKS.due("sync behind start", log.sync(), 1);
    }

    private static void cutInPlaceOfAnother() {
        CHECKS.sentence("Promise 5: A CUT is told (in place of one told before)");
        int[][] pairs = {{0, 0, 1, 63}, {1, 63, 0, 0}, {MOST, 0, 1, 1}, {0, 1, 0, 62}};
        for (int[] p : pairs) {
            HouseLog log = new HouseLog(4);
            for (int place = 0; place < 64; place++) {
                log.poke(p[2], place, 255);
            }
            log.end(1, false);
            log.cut(p[0], p[1]);
            String name = "cut(" + p[0] + ", " + p[1] + "), then cut(" + p[2] + ", " + p[3] + ")";
            CHECKS.refused(name, log, true, () -> log.cut(p[2], p[3]));
            CHECKS.due(name + ": sync", log.sync(), HouseLog.NONE);
            CHECKS.due(name + ": writes", log.count(6), p[2] + 1);
            CHECKS.due(name + ": the byte behind the tear", log.disk(p[2], p[3]), 255);
            CHECKS.due(name + ": the byte before it", p[3] == 0 || log.disk(p[2], p[3] - 1) != 255, true);
        }
        HouseLog farther = Checks.synced(4, 1);
        farther.cut(0, 0);
        farther.cut(MOST, 0);
        Checks.pend(farther, 1);
        CHECKS.due("a cut farther off in place of the next write's: sync", farther.sync(), 2);
    }

    private static void cutNoneAnyMore() {
        CHECKS.sentence("Promise 5: or with keep NONE none any more: true");
        for (int tear : new int[] {0, 63}) {
            HouseLog log = new HouseLog(4);
            CHECKS.refused("cut(NONE, " + tear + ") where none was told", log, true, () -> log.cut(HouseLog.NONE, tear));
            log.cut(0, 5);
            CHECKS.refused("cut(NONE, " + tear + ")", log, true, () -> log.cut(HouseLog.NONE, tear));
            Checks.pend(log, 2);
            CHECKS.due("sync", log.sync(), 2);
            log.end(1, true);
            log.cut(0, 0);
            CHECKS.due("a cut told behind it: sync", log.sync(), HouseLog.NONE);
        }
    }

    private static void cutIfDown() {
        CHECKS.sentence("Promise 5: false if it is DOWN");
        HouseLog log = Checks.downLog();
        for (int keep : new int[] {HouseLog.NONE, 0, 1, MOST}) {
            CHECKS.refused("cut(" + keep + ", 0)", log, false, () -> log.cut(keep, 0));
        }
        log.cut(0, 63);
        log.start();
        Checks.pend(log, 2);
        CHECKS.due("it was not told: sync", log.sync(), 3);
    }

    private static void cutBelowNone() {
        CHECKS.sentence("Promise 5: keep is below NONE");
        for (int keep : new int[] {LEAST, LEAST + 1, -64, -3, -2}) {
            HouseLog log = toldCut();
            CHECKS.refused("cut(" + keep + ", 0)", log, false, () -> log.cut(keep, 0));
            CHECKS.refused("cut(" + keep + ", 63)", log, false, () -> log.cut(keep, 63));
            toldCutCame("behind cut(" + keep + ", 0)", log);
        }
    }

    private static HouseLog toldCut() {
        HouseLog log = new HouseLog(4);
        log.cut(1, 7);
        return log;
    }

    private static void toldCutCame(String name, HouseLog log) {
        Checks.pend(log, 1);
        CHECKS.due(name + ": sync with the cut told before", log.sync(), HouseLog.NONE);
        CHECKS.due(name + ": its keep", log.count(6), 2);
        CHECKS.due(name + ": its last byte", log.disk(1, 6), 10);
        CHECKS.due(name + ": the byte behind it", log.disk(1, 7), 0);
    }

    private static void cutOfNoTear() {
        CHECKS.sentence("Promise 5: or tear is not 0 .. 63");
        for (int tear : new int[] {LEAST, -64, -1, 64, 65, 256, MOST}) {
            HouseLog log = toldCut();
            for (int keep : new int[] {HouseLog.NONE, 0, MOST}) {
                CHECKS.refused("cut(" + keep + ", " + tear + ")", log, false, () -> log.cut(keep, tear));
            }
            toldCutCame("behind cut(0, " + tear + ")", log);
        }
        HouseLog log = new HouseLog(4);
        CHECKS.due("cut(0, 0)", log.cut(0, 0), true);
        CHECKS.due("cut(0, 63)", log.cut(0, 63), true);
    }

    private static void startTellsRows() {
        CHECKS.sentence("Promise 6: how many rows there are");
        HouseLog none = new HouseLog(4);
        CHECKS.refused("start of a new log", none, 0, () -> none.start());
        none.end(1, false);
        CHECKS.due("start with a pending row", none.start(), 0);
        for (int rows : new int[] {1, 2, 3, 4}) {
            HouseLog log = new HouseLog(4);
            for (int k = 0; k < rows; k++) {
                log.end(1, true);
            }
            log.sync();
            CHECKS.refused("start with " + rows + " rows", log, rows, () -> log.start());
            CHECKS.due("room behind start", log.count(7), Math.max(0, 2 - rows));
        }
        CHECKS.due("start of a full disk", Checks.full(64).start(), 64);
        HouseLog down = Checks.downLog();
        CHECKS.due("start of a log that is down", down.start(), 1);
        CHECKS.due("it is not down", down.count(4), 0);
        CHECKS.refused("another start", down, 1, () -> down.start());
        HouseLog empty = new HouseLog(4);
        empty.end(1, false);
        empty.cut(0, 0);
        empty.sync();
        CHECKS.due("start of a log that is down without rows", empty.start(), 0);
        CHECKS.due("it is not down without rows", empty.count(4), 0);
    }

    private static void pokeAlters() {
        CHECKS.sentence("Promise 7: A byte of a copy is altered by a mask: true");
        for (int sectors : new int[] {4, 64}) {
            for (int place : new int[] {0, 63, 64, 64 * sectors - 1}) {
                for (int copy = 0; copy < 2; copy++) {
                    HouseLog log = new HouseLog(sectors);
                    int due = 0;
                    for (int mask : new int[] {1, 128, 255, 254}) {
                        due ^= mask;
                        String name = "poke(" + copy + ", " + place + ", " + mask + ")";
                        CHECKS.due(name, log.poke(copy, place, mask), true);
                        CHECKS.due(name + ": the byte", log.disk(copy, place), due);
                        CHECKS.due(name + ": the other copy", log.disk(1 - copy, place), 0);
                    }
                }
            }
        }
        HouseLog down = Checks.downLog();
        CHECKS.due("poke if down", down.poke(1, 0, 255), true);
        CHECKS.due("its byte", down.disk(1, 0), 255);
    }

    private static void pokeOfNoCopy() {
        CHECKS.sentence("Promise 7: false if there is no such copy");
        HouseLog log = Checks.synced(4, 1);
        for (int copy : NO_COPIES) {
            CHECKS.refused("poke(" + copy + ", 0, 1)", log, false, () -> log.poke(copy, 0, 1));
            CHECKS.refused("poke(" + copy + ", -1, 0)", log, false, () -> log.poke(copy, -1, 0));
        }
    }

    private static void pokeOfNoPlace() {
        CHECKS.sentence("Promise 7: or place (64 * sector + byte)");
        for (int sectors : new int[] {4, 64}) {
            HouseLog log = Checks.full(sectors);
            for (int place : new int[] {LEAST, LEAST + 4, -64, -1, 64 * sectors, 64 * sectors + 1, 64 * 65, 1 << 24, MOST}) {
                CHECKS.refused("poke(0, " + place + ", 1)", log, false, () -> log.poke(0, place, 1));
                CHECKS.refused("poke(1, " + place + ", 1)", log, false, () -> log.poke(1, place, 1));
            }
        }
    }

    private static void pokeOfNoMask() {
        CHECKS.sentence("Promise 7: or the mask is not 1 .. 255");
        HouseLog log = Checks.synced(4, 1);
        for (int mask : new int[] {LEAST, -255, -1, 0, 256, 257, 511, 1 << 16, MOST}) {
            CHECKS.refused("poke(0, 4, " + mask + ")", log, false, () -> log.poke(0, 4, mask));
            CHECKS.refused("poke(1, 4, " + mask + ")", log, false, () -> log.poke(1, 4, mask));
        }
    }

    private static void diskTellsBytes() {
        CHECKS.sentence("Promise 8: A byte of a copy, 0 .. 255");
        HouseLog log = new HouseLog(4);
        for (int value = 0; value < 256; value++) {
            Checks.setByte(log, 0, 255, value);
            Checks.setByte(log, 1, 0, value);
            CHECKS.due("a byte of " + value + " in the last place", log.disk(0, 255), value);
            CHECKS.due("a byte of " + value + " in the first place", log.disk(1, 0), value);
        }
        HouseLog down = Checks.downLog();
        CHECKS.refused("disk if down", down, 10, () -> down.disk(1, 6));
    }

    private static void diskOfNoCopy() {
        CHECKS.sentence("Promise 8: IllegalArgumentException if there is no such copy");
        HouseLog log = Checks.synced(4, 1);
        for (int copy : NO_COPIES) {
            for (int place : new int[] {0, 255, 256, -1, LEAST, MOST}) {
                CHECKS.refusedThrow("disk(" + copy + ", " + place + ")", log, IllegalArgumentException.class,
                        () -> log.disk(copy, place));
            }
        }
    }

    private static void diskOfNoPlace() {
        CHECKS.sentence("Promise 8: ArrayIndexOutOfBoundsException if there is no such place");
        for (int sectors : new int[] {4, 64}) {
            HouseLog log = Checks.full(sectors);
            for (int place : new int[] {LEAST, LEAST + 4, -64, -1, 64 * sectors, 64 * sectors + 1, 64 * 65, 1 << 24, MOST}) {
                for (int copy = 0; copy < 2; copy++) {
                    int c = copy;
                    CHECKS.refusedThrow("disk(" + c + ", " + place + ")", log, ArrayIndexOutOfBoundsException.class,
                            () -> log.disk(c, place));
                }
            }
        }
        HouseLog down = Checks.downLog();
        CHECKS.refusedThrow("disk(0, 512) if down", down, ArrayIndexOutOfBoundsException.class, () -> down.disk(0, 512));
    }

    private static void verifyIfRight() {
        CHECKS.sentence("Promise 10: 0 if all is right");
        HouseLog none = new HouseLog(4);
        none.poke(0, 0, 1);
        CHECKS.refused("verify of no rows", none, 0, () -> none.verify());
        HouseLog full = Checks.full(64);
        CHECKS.refused("verify of a full disk", full, 0, () -> full.verify());
        full.poke(1, 63 * 64 + 11, 1);
        CHECKS.refused("verify with a byte altered behind the sum", full, 0, () -> full.verify());
    }

    private static void verifyTellsTheFirst() {
        CHECKS.sentence("Promise 10: else 1 more than 2 * sector + copy of the first sector that is not (by sectors, then copies)");
        HouseLog log = Checks.full(64);
        for (int answer = 128; answer >= 1; answer--) {
            log.poke((answer - 1) % 2, (answer - 1) / 2 * 64 + 6, 1);
            CHECKS.due("verify", log.verify(), answer);
        }
        HouseLog turns = Checks.synced(4, 2);
        turns.poke(1, 0, 1);
        turns.poke(0, 64, 1);
        CHECKS.due("copy 1 of sector 0 comes before copy 0 of sector 1", turns.verify(), 2);
        Checks.pend(turns, 1);
        turns.poke(1, 0, 1);
        turns.poke(0, 64, 1);
        CHECKS.due("a pending row, not yet on the disk", turns.verify(), 0);
    }

    private static void verifyIfDown() {
        CHECKS.sentence("Promise 10: IllegalStateException if it is DOWN");
        HouseLog log = Checks.downLog();
        CHECKS.refusedThrow("verify", log, IllegalStateException.class, () -> log.verify());
        log.poke(0, 0, 1);
        CHECKS.refusedThrow("verify with a byte altered", log, IllegalStateException.class, () -> log.verify());
    }
}
