import java.util.Arrays;
import java.util.NoSuchElementException;

/** The edges that the document names under "Terms": each sentence has a test of its own, told with its words. */
public final class TermEdgesTest {
    private static final Checks CHECKS = new Checks();

    public static void main(String[] args) {
        diskAtFirst();
        formOfASector();
        restBehindALongerRow();
        sumTurnsAndWraps();
        rightBytes();
        rightNumberKindAndLength();
        collectedAtMost();
        endedRow();
        reserve();
        syncWritesInOrder();
        syncWritesPendingRowsAlone();
        cutBehindSoManyWrites();
        tornFirstBytes();
        downWritesNothingMore();
        downLoses();
        downHidesRows();
        startGoesOnAsLongAs();
        startMends();
        startWhereBothAreRight();
        startAcknowledgesAll();
        startWhereNotDown();
        rowsAreInMemory();
        verifyLooksAtAcknowledgedRows();
        firstToldException();
        CHECKS.finish();
    }

    private static void diskAtFirst() {
        CHECKS.sentence("two COPIES 0 and 1 of so many SECTORS of 64 bytes (0 at first)");
        for (int sectors : new int[] {4, 64}) {
            HouseLog log = new HouseLog(sectors);
            int last = 64 * sectors - 1;
            for (int place = 0; place <= last; place++) {
                CHECKS.due("disk(0, " + place + ")", log.disk(0, place), 0);
                CHECKS.due("disk(1, " + place + ")", log.disk(1, place), 0);
            }
            log.poke(0, last, 1);
            log.poke(1, 0, 2);
            CHECKS.due("the last byte of copy 0", log.disk(0, last), 1);
            CHECKS.due("the first byte of copy 0", log.disk(0, 0), 0);
            CHECKS.due("the last byte of copy 1", log.disk(1, last), 0);
            CHECKS.due("the first byte of copy 1", log.disk(1, 0), 2);
        }
    }

    private static void formOfASector() {
        CHECKS.sentence("bytes 0 .. 3 the number (highest first), 4 the KIND (1 .. 9), 5 the LENGTH (0 .. 40), then its bytes,"
                + " then four bytes of SUM (highest first) of all these; the rest 0");
        HouseLog least = new HouseLog(4);
        spoil(least, 0);
        least.end(1, false);
        least.sync();
        sector("the shortest row", least, 0, 0, 0, 0, 0, 1, 0, 180, 246, 181, 71);

        HouseLog most = new HouseLog(64);
        for (int k = 0; k < 63; k++) {
            most.end(1, true);
        }
        spoil(most, 63);
        for (int i = 0; i < 40; i++) {
            most.add(255);
        }
        most.end(9, true);
        most.sync();
        int[] want = new int[50];
        Arrays.fill(want, 6, 46, 255);
        int[][] parts = {{3, 63}, {4, 9}, {5, 40}, {46, 41}, {47, 221}, {48, 111}, {49, 83}};
        for (int[] part : parts) {
            want[part[0]] = part[1];
        }
        sector("the longest row in the last sector", most, 63, want);
    }

    private static void restBehindALongerRow() {
        CHECKS.sentence("the rest 0");
        HouseLog pending = new HouseLog(4);
        Checks.collect(pending, 40);
        pending.end(9, false);
        pending.start();
        pending.end(1, false);
        pending.sync();
        sector("a row in place of a longer one that was pending", pending, 0, 0, 0, 0, 0, 1, 0, 180, 246, 181, 71);

        HouseLog found = new HouseLog(4);
        Checks.collect(found, 40);
        found.end(9, false);
        found.sync();
        found.poke(0, 63, 255);
        found.start();
        found.poke(0, 0, 1);
        found.poke(1, 0, 1);
        found.start();
        found.end(1, false);
        found.sync();
        sector("a row in place of a longer one that was found", found, 0, 0, 0, 0, 0, 1, 0, 180, 246, 181, 71);
    }

    private static void spoil(HouseLog log, int sector) {
        for (int place = 64 * sector; place < 64 * sector + 64; place++) {
            log.poke(0, place, 255);
            log.poke(1, place, 255);
        }
    }

    private static void sector(String name, HouseLog log, int sector, int... want) {
        for (int i = 0; i < 64; i++) {
            int due = i < want.length ? want[i] : 0;
            CHECKS.due(name + ", byte " + i + " of copy 0", log.disk(0, 64 * sector + i), due);
            CHECKS.due(name + ", byte " + i + " of copy 1", log.disk(1, 64 * sector + i), due);
        }
    }

    // The numbers were reckoned outside of Java, with numbers that do not wrap.
    private static void sumTurnsAndWraps() {
        CHECKS.sentence("s = (s xor b) turned left by 9, times 0x85EBCA6B (32 bits)");
        HouseLog log = new HouseLog(4);
        log.end(1, false);
        CHECKS.due("the sum of an empty row", log.extract(0, 0), 0x9B8069F5);
        for (int i = 0; i < 40; i++) {
            log.add(255);
        }
        log.end(9, false);
        CHECKS.due("the sum of a long row", log.extract(1, 1), 0x085A23C3);
    }

    private static void rightBytes() {
        CHECKS.sentence("A SECTOR is RIGHT for a number if it has .. its SUM");
        for (int length : new int[] {0, 40}) {
            int behind = 6 + length + 4;
            for (int place = 0; place < 64; place++) {
                for (int mask = 1; mask < 256; mask <<= 1) {
                    HouseLog log = new HouseLog(4);
                    Checks.collect(log, length);
                    log.end(1, false);
                    log.sync();
                    log.poke(1, place, mask);
                    String name = "length " + length + ", poke(1, " + place + ", " + mask + "): verify";
                    CHECKS.due(name, log.verify(), place < behind ? 2 : 0);
                }
            }
        }
    }

    private static void rightNumberKindAndLength() {
        CHECKS.sentence("if it has that number, a KIND and LENGTH that can be");
        int[][] can = {{0, 1, 0}, {0, 9, 40}, {0, 1, 40}, {0, 9, 0}};
        int[][] canNot = {{0, 0, 0}, {0, 10, 0}, {0, 255, 0}, {0, 128, 0}, {0, 1, 41}, {0, 1, 54}, {1, 1, 0}, {1 << 8, 1, 0},
            {1 << 16, 1, 0}, {1 << 24, 1, 0}, {-1, 1, 0}};
        for (int[] head : can) {
            rightHead(head, 1);
        }
        for (int[] head : canNot) {
            rightHead(head, 0);
        }
        HouseLog second = Checks.synced(4, 1);
        Checks.put(second, 0, 1, 0, 1);
        CHECKS.due("row 0 in sector 1 is no row", second.start(), 1);
        Checks.put(second, 0, 1, 1, 1);
        CHECKS.due("row 1 in sector 1 is one", second.start(), 2);
    }

    private static void rightHead(int[] head, int found) {
        for (int copy = 0; copy < 2; copy++) {
            HouseLog log = new HouseLog(4);
            Checks.put(log, copy, 0, head[0], head[1], new int[head[2]]);
            CHECKS.due("number " + head[0] + ", kind " + head[1] + ", length " + head[2] + ": start", log.start(), found);
        }
    }

    private static void collectedAtMost() {
        CHECKS.sentence("Bytes are COLLECTED (40 at most)");
        HouseLog log = new HouseLog(4);
        Checks.collect(log, 50);
        CHECKS.due("collected", log.count(3), 40);
        log.end(1, false);
        CHECKS.due("the length", log.look(0, 1), 40);
        CHECKS.due("the last byte is the 40th", log.at(0, 39), 40);
    }

    private static void endedRow() {
        CHECKS.sentence("it has what was collected, which is used up; it is PENDING");
        HouseLog log = new HouseLog(6);
        Checks.row(log, 1, 5, 6, 7);
        CHECKS.due("it is used up", log.count(3), 0);
        Checks.row(log, 2);
        CHECKS.due("a row of nothing", log.look(1, 1), 0);
        Checks.row(log, 3, 8);
        CHECKS.due("a row of what came since", log.look(2, 1), 1);
        CHECKS.due("its byte", log.at(2, 0), 8);
        CHECKS.due("the first row is pending", log.look(0, 2), 0);
        CHECKS.due("nothing is on the disk", log.disk(0, 4) + log.disk(1, 4), 0);
    }

    private static void reserve() {
        CHECKS.sentence("The last two sectors are the RESERVE: rows that are no RELEASE find no room there");
        for (int sectors : new int[] {4, 5, 64}) {
            HouseLog log = new HouseLog(sectors);
            for (int k = 0; k < sectors - 2; k++) {
                CHECKS.due("the row before the reserve", log.end(1, false), k);
            }
            CHECKS.due("a row in the reserve", log.end(1, false), HouseLog.NONE);
            CHECKS.due("a release in the reserve", log.end(1, true), sectors - 2);
            CHECKS.due("a row in the last sector", log.end(1, false), HouseLog.NONE);
            CHECKS.due("a release in the last sector", log.end(1, true), sectors - 1);
            CHECKS.due("a release behind it", log.end(1, true), HouseLog.NONE);
        }
        HouseLog early = new HouseLog(4);
        CHECKS.due("a release before the reserve", early.end(1, true), 0);
        CHECKS.due("a row behind it", early.end(1, false), 1);
        CHECKS.due("early releases leave the reserve the last sectors", early.end(1, false), HouseLog.NONE);
    }

    private static void syncWritesInOrder() {
        CHECKS.sentence("of each, in order, its sector of copy 0, then that of copy 1; they are ACKNOWLEDGED then");
        for (int keep = 0; keep < 6; keep++) {
            HouseLog log = new HouseLog(8);
            Checks.pend(log, 3);
            log.cut(keep, 0);
            log.sync();
            for (int write = 0; write < 6; write++) {
                boolean written = log.disk(write % 2, 64 * (write / 2) + 4) != 0;
                CHECKS.due("cut(" + keep + ", 0): write " + write, written, write < keep);
            }
        }
        HouseLog log = new HouseLog(8);
        Checks.pend(log, 3);
        log.sync();
        CHECKS.due("the first row is acknowledged", log.look(0, 2), 1);
        CHECKS.due("the last row is acknowledged", log.look(2, 2), 1);
    }

    private static void syncWritesPendingRowsAlone() {
        CHECKS.sentence("SYNC writes all pending rows");
        HouseLog log = Checks.synced(4, 1);
        log.poke(0, 6, 1);
        CHECKS.refused("sync of nothing pending", log, 1, () -> log.sync());
        Checks.pend(log, 1);
        log.poke(0, 64, 255);
        CHECKS.due("sync of one", log.sync(), 2);
        CHECKS.due("writes", log.count(6), 4);
        CHECKS.due("the acknowledged row is not written again", log.disk(0, 6), 11);
        CHECKS.due("the pending row is written over what was altered", log.disk(0, 64), 0);
    }

    private static void cutBehindSoManyWrites() {
        CHECKS.sentence("behind so many further writes of a sync, the next one is TORN");
        HouseLog first = Checks.synced(8, 2);
        first.cut(0, 0);
        CHECKS.due("a sync without a write", first.sync(), 2);
        CHECKS.due("it is not down", first.count(4), 0);
        Checks.pend(first, 1);
        CHECKS.due("the very next write", first.sync(), HouseLog.NONE);
        CHECKS.due("writes", first.count(6), 5);

        HouseLog last = Checks.synced(8, 1);
        Checks.pend(last, 2);
        last.cut(4, 0);
        CHECKS.due("as many writes as are kept", last.sync(), 3);
        CHECKS.due("a sync without a write", last.sync(), 3);
        Checks.pend(last, 1);
        CHECKS.due("the first write of a later sync", last.sync(), HouseLog.NONE);
        CHECKS.due("writes", last.count(6), 7);

        HouseLog far = new HouseLog(4);
        far.cut(Integer.MAX_VALUE, 0);
        Checks.pend(far, 2);
        CHECKS.due("a cut as far as can be", far.sync(), 2);
    }

    private static void tornFirstBytes() {
        CHECKS.sentence("so many of its first bytes are written (0 .. 63), the others stay as they were");
        int[] whole = {0, 0, 0, 0, 5, 1, 8, 163, 21, 145, 183};
        for (int tear = 0; tear < 64; tear++) {
            HouseLog log = new HouseLog(4);
            spoil(log, 0);
            Checks.row(log, 5, 8);
            log.cut(1, tear);
            log.sync();
            for (int i = 0; i < 64; i++) {
                int due = i >= tear ? 255 : i < whole.length ? whole[i] : 0;
                CHECKS.due("cut(1, " + tear + "): byte " + i, log.disk(1, i), due);
            }
            CHECKS.due("cut(1, " + tear + "): the next sector", log.disk(1, 64), 0);
            log.start();
            CHECKS.due("cut(1, " + tear + "): mended", log.count(5), tear < whole.length ? 1 : 0);
        }
    }

    private static void downWritesNothingMore() {
        CHECKS.sentence("Then the log is DOWN: nothing more is written");
        HouseLog log = new HouseLog(8);
        Checks.pend(log, 2);
        log.cut(0, 20);
        log.sync();
        CHECKS.due("down", log.count(4), 1);
        CHECKS.due("writes", log.count(6), 1);
        CHECKS.due("copy 1 of the torn row", log.disk(1, 4), 0);
        CHECKS.due("copy 0 of the next row", log.disk(0, 64 + 4), 0);
        CHECKS.refusedThrow("another sync", log, IllegalStateException.class, () -> log.sync());
    }

    private static void downLoses() {
        CHECKS.sentence("what is pending or collected is lost");
        HouseLog log = Checks.synced(8, 1);
        Checks.pend(log, 2);
        Checks.collect(log, 40);
        log.cut(0, 0);
        log.sync();
        CHECKS.due("collected", log.count(3), 0);
        CHECKS.due("start", log.start(), 1);
        CHECKS.due("collected behind start", log.count(3), 0);
        CHECKS.due("sync of what is left", log.sync(), 1);
        CHECKS.due("the next row", log.end(4, false), 1);
        CHECKS.due("it is empty", log.look(1, 1), 0);
    }

    private static void downHidesRows() {
        CHECKS.sentence("rows can't be looked at until it is STARTED");
        HouseLog log = Checks.downLog();
        CHECKS.refusedThrow("at", log, IllegalStateException.class, () -> log.at(0, 0));
        CHECKS.refusedThrow("look", log, IllegalStateException.class, () -> log.look(0, 0));
        CHECKS.refusedThrow("extract", log, IllegalStateException.class, () -> log.extract(0, 0));
        CHECKS.refusedThrow("verify", log, IllegalStateException.class, () -> log.verify());
        CHECKS.due("rows", log.count(1), HouseLog.NONE);
        log.start();
        CHECKS.due("at behind start", log.at(0, 0), 10);
        CHECKS.due("look behind start", log.look(0, 0), 1);
        CHECKS.due("extract behind start", log.extract(0, 0), Checks.sum(1, 2, 10, 20));
        CHECKS.due("verify behind start", log.verify(), 0);
        CHECKS.due("rows behind start", log.count(1), 1);
    }

    private static void startGoesOnAsLongAs() {
        CHECKS.sentence("from sector 0 on, as long as there is a sector and one of the copies is RIGHT for its number");
        CHECKS.due("no row at all", new HouseLog(4).start(), 0);
        CHECKS.due("no sector more, of 4", Checks.full(4).start(), 4);
        CHECKS.due("no sector more, of 64", Checks.full(64).start(), 64);
        for (int wrong = 0; wrong < 4; wrong++) {
            HouseLog log = Checks.full(4);
            log.poke(0, 64 * wrong, 1);
            log.poke(1, 64 * wrong, 1);
            CHECKS.due("both copies of sector " + wrong + " wrong", log.start(), wrong);
        }
        HouseLog turns = Checks.full(4);
        for (int sector = 0; sector < 4; sector++) {
            turns.poke(sector % 2, 64 * sector, 1);
        }
        CHECKS.due("one copy of each sector wrong", turns.start(), 4);
        HouseLog late = new HouseLog(4);
        Checks.put(late, 0, 1, 1, 1);
        CHECKS.due("a row behind an empty sector 0", late.start(), 0);
    }

    private static void startMends() {
        CHECKS.sentence("where the other one is not, it is written over by the right one (MENDED; also where the log is not DOWN)");
        for (int copy = 0; copy < 2; copy++) {
            HouseLog log = Checks.full(4);
            for (int place = 64 * 3; place < 64 * 4; place++) {
                log.poke(copy, place, 255);
            }
            CHECKS.due("start of a log that is up", log.start(), 4);
            mendedAlike("up, copy " + copy, log, 1);

            HouseLog down = Checks.synced(8, 3);
            Checks.pend(down, 1);
            down.cut(0, 0);
            down.sync();
            down.poke(copy, 0, 1);
            down.poke(copy, 64 * 2 + 63, 1);
            down.poke(copy, 64 * 2 + 6, 1);
            CHECKS.due("start of a log that is down", down.start(), 3);
            mendedAlike("down, copy " + copy, down, 2);
        }
        HouseLog behind = Checks.full(4);
        behind.poke(0, 64, 1);
        behind.poke(1, 64, 1);
        behind.poke(0, 128, 1);
        behind.start();
        CHECKS.due("nothing is mended behind the rows", behind.count(5), 0);
        CHECKS.due("the sector behind the rows stays", behind.disk(0, 128), 1);
    }

    private static void mendedAlike(String name, HouseLog log, int mended) {
        CHECKS.due(name + ": mended", log.count(5), mended);
        for (int place = 0; place < 64 * 4; place++) {
            CHECKS.due(name + ": byte " + place, log.disk(0, place), log.disk(1, place));
        }
        CHECKS.due(name + ": verify", log.verify(), 0);
        CHECKS.due(name + ": number of row 2", log.disk(0, 64 * 2 + 3), 2);
        log.start();
        CHECKS.due(name + ": mended by another start", log.count(5), 0);
    }

    private static void startWhereBothAreRight() {
        CHECKS.sentence("where both are RIGHT the row is that of copy 0, and nothing is mended");
        HouseLog log = new HouseLog(4);
        Checks.put(log, 0, 0, 0, 3, 1, 2);
        Checks.put(log, 1, 0, 0, 4, 9);
        log.start();
        CHECKS.due("the kind", log.look(0, 0), 3);
        CHECKS.due("the length", log.look(0, 1), 2);
        CHECKS.due("a byte", log.at(0, 1), 2);
        CHECKS.due("mended", log.count(5), 0);
        CHECKS.due("copy 0 stays", log.disk(0, 4), 3);
        CHECKS.due("copy 1 stays", log.disk(1, 4), 4);
    }

    private static void startAcknowledgesAll() {
        CHECKS.sentence("What is found is all rows that there are; they are ACKNOWLEDGED");
        HouseLog log = Checks.synced(4, 1);
        Checks.pend(log, 1);
        log.cut(1, 0);
        log.sync();
        CHECKS.due("start", log.start(), 2);
        CHECKS.due("rows", log.count(1), 2);
        CHECKS.due("acknowledged", log.count(2), 2);
        CHECKS.due("a row that no sync acknowledged", log.look(1, 2), 1);
        log.poke(0, 64, 1);
        log.poke(1, 64, 1);
        log.start();
        CHECKS.due("rows behind a loss", log.count(1), 1);
        CHECKS.due("acknowledged behind a loss", log.count(2), 1);
        CHECKS.dueThrow("look at the lost row", NoSuchElementException.class, () -> log.look(1, 0));
        CHECKS.due("the next row", log.end(1, false), 1);
    }

    private static void startWhereNotDown() {
        CHECKS.sentence("Where the log is not DOWN, what is pending is lost, too (what is collected stays, and a CUT that was told)");
        HouseLog log = Checks.synced(8, 1);
        Checks.pend(log, 2);
        Checks.collect(log, 40);
        log.cut(1, 63);
        log.poke(0, 0, 1);
        CHECKS.due("start", log.start(), 1);
        CHECKS.dueThrow("look at what was pending", NoSuchElementException.class, () -> log.look(1, 0));
        CHECKS.due("sync of what is left", log.sync(), 1);
        CHECKS.due("collected", log.count(3), 40);
        CHECKS.due("end", log.end(9, false), 1);
        CHECKS.due("its length", log.look(1, 1), 40);
        CHECKS.due("its last byte", log.at(1, 39), 40);
        CHECKS.due("sync with the cut", log.sync(), HouseLog.NONE);
        CHECKS.due("writes, the mend not among them", log.count(6), 4);
    }

    private static void rowsAreInMemory() {
        CHECKS.sentence("ROWS are looked at as they are in memory: those found or ended, in order");
        HouseLog log = Checks.synced(6, 2);
        log.start();
        Checks.row(log, 7, 99);
        for (int sector = 0; sector < 3; sector++) {
            spoil(log, sector);
        }
        int[][] want = {{1, 2, 10}, {2, 2, 11}, {7, 1, 99}};
        for (int row = 0; row < 3; row++) {
            CHECKS.due("the kind of row " + row, log.look(row, 0), want[row][0]);
            CHECKS.due("the length of row " + row, log.look(row, 1), want[row][1]);
            CHECKS.due("the first byte of row " + row, log.at(row, 0), want[row][2]);
        }
        CHECKS.due("the extract", log.extract(0, 2), Checks.sum(1, 2, 10, 20, 2, 2, 11, 21, 7, 1, 99));
    }

    private static void verifyLooksAtAcknowledgedRows() {
        CHECKS.sentence("TO VERIFY is to look at both copies of all acknowledged rows, without writing");
        HouseLog log = new HouseLog(4);
        CHECKS.refused("verify of no rows", log, 0, () -> log.verify());
        Checks.pend(log, 1);
        CHECKS.refused("verify of a pending row", log, 0, () -> log.verify());
        log.sync();
        log.poke(0, 64, 1);
        CHECKS.refused("verify with a byte altered behind the rows", log, 0, () -> log.verify());
        log.poke(1, 0, 1);
        CHECKS.refused("verify with copy 1 altered", log, 2, () -> log.verify());
        log.poke(0, 0, 1);
        CHECKS.refused("verify with both copies altered", log, 1, () -> log.verify());
    }

    private static void firstToldException() {
        CHECKS.sentence("Of several exceptions the one told first is thrown");
        HouseLog down = Checks.downLog();
        CHECKS.dueThrow("end(0, true) if down", IllegalArgumentException.class, () -> down.end(0, true));
        CHECKS.dueThrow("disk(2, -1) if down", IllegalArgumentException.class, () -> down.disk(2, -1));
        CHECKS.dueThrow("at(9, -1) if down", IllegalStateException.class, () -> down.at(9, -1));
        CHECKS.dueThrow("at(0, -1) if down", IllegalStateException.class, () -> down.at(0, -1));
        CHECKS.dueThrow("extract(9, 8) if down", IllegalStateException.class, () -> down.extract(9, 8));
        CHECKS.dueThrow("look(9, 9) if down", IllegalStateException.class, () -> down.look(9, 9));
        HouseLog up = Checks.synced(4, 1);
        CHECKS.dueThrow("at(1, -1)", NoSuchElementException.class, () -> up.at(1, -1));
        CHECKS.dueThrow("at(-1, 99)", NoSuchElementException.class, () -> up.at(-1, 99));
    }
}
