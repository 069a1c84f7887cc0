import java.util.NoSuchElementException;

/** The edges that promises 1, 2, 3, 9, 11 and 12 name: each sentence has a test of its own, told with its words. */
public final class RowEdgesTest {
    private static final int LEAST = Integer.MIN_VALUE;
    private static final int MOST = Integer.MAX_VALUE;
    private static final Checks CHECKS = new Checks();

    public static void main(String[] args) {
        sectorsAreHeld();
        addTakesLowestBits();
        addIfFull();
        addIfDown();
        endTellsTheNumber();
        endWithoutRoom();
        endOfNoKind();
        endIfDown();
        atTheEndsOfARow();
        atIfDown();
        atOfNoRow();
        atOfNoByte();
        extractOverRows();
        extractIfDown();
        extractOfNoRows();
        extractBackwards();
        lookAtTheEdges();
        lookIfDown();
        lookAtNoRow();
        lookAtNoWhat();
        CHECKS.finish();
    }

    private static void sectorsAreHeld() {
        CHECKS.sentence("Promise 1: A disk of so many sectors (4 .. 64, held to that)");
        int[][] held = {{LEAST, 4}, {-64, 4}, {-1, 4}, {0, 4}, {1, 4}, {3, 4}, {4, 4}, {5, 5}, {63, 63}, {64, 64}, {65, 64},
            {128, 64}, {MOST, 64}};
        for (int[] h : held) {
            HouseLog log = new HouseLog(h[0]);
            String name = "new HouseLog(" + h[0] + "): ";
            CHECKS.due(name + "sectors", log.count(0), h[1]);
            CHECKS.due(name + "room", log.count(7), h[1] - 2);
            CHECKS.due(name + "the last place", log.disk(1, 64 * h[1] - 1), 0);
            CHECKS.dueThrow(name + "the place behind it", ArrayIndexOutOfBoundsException.class, () -> log.disk(1, 64 * h[1]));
            for (int k = 0; k < h[1]; k++) {
                log.end(1, true);
            }
            CHECKS.due(name + "rows", log.count(1), h[1]);
            CHECKS.due(name + "no row more", log.end(1, true), HouseLog.NONE);
            CHECKS.due(name + "sync", log.sync(), h[1]);
            CHECKS.due(name + "start", log.start(), h[1]);
        }
    }

    private static void addTakesLowestBits() {
        CHECKS.sentence("Promise 2: A byte is COLLECTED (its lowest 8 bits): true");
        int[][] bits = {{0, 0}, {127, 127}, {128, 128}, {255, 255}, {256, 0}, {257, 1}, {511, 255}, {-1, 255}, {-128, 128},
            {-129, 127}, {-256, 0}, {LEAST, 0}, {MOST, 255}, {0x7FFFFF80, 128}};
        HouseLog log = new HouseLog(4);
        for (int[] b : bits) {
            CHECKS.due("add(" + b[0] + ")", log.add(b[0]), true);
        }
        log.end(1, false);
        log.sync();
        for (int i = 0; i < bits.length; i++) {
            CHECKS.due("add(" + bits[i][0] + "), in memory", log.at(0, i), bits[i][1]);
            CHECKS.due("add(" + bits[i][0] + "), on the disk", log.disk(0, 6 + i), bits[i][1]);
        }
        CHECKS.due("the sector is right", log.verify(), 0);
    }

    private static void addIfFull() {
        CHECKS.sentence("Promise 2: false if there are 40");
        HouseLog log = new HouseLog(4);
        for (int i = 1; i <= 40; i++) {
            CHECKS.due("add " + i, log.add(i), true);
        }
        CHECKS.refused("add 41", log, false, () -> log.add(41));
        CHECKS.refused("add 42", log, false, () -> log.add(42));
        log.end(1, false);
        CHECKS.due("the last byte", log.at(0, 39), 40);
        CHECKS.due("add to the next row", log.add(1), true);

        HouseLog noRoom = Checks.full(4);
        Checks.collect(noRoom, 40);
        noRoom.end(1, true);
        CHECKS.refused("add behind an end without room", noRoom, false, () -> noRoom.add(1));
    }

    private static void addIfDown() {
        CHECKS.sentence("Promise 2: or the log is DOWN");
        HouseLog log = Checks.downLog();
        CHECKS.refused("add", log, false, () -> log.add(1));
        log.start();
        CHECKS.due("nothing was collected", log.count(3), 0);
        CHECKS.due("add behind start", log.add(1), true);
    }

    private static void endTellsTheNumber() {
        CHECKS.sentence("Promise 3: ENDS a row: its number");
        HouseLog log = new HouseLog(64);
        CHECKS.due("the first, empty row, of the least kind", log.end(1, false), 0);
        Checks.collect(log, 40);
        CHECKS.due("the longest row, of the most kind", log.end(9, false), 1);
        CHECKS.due("their kinds", log.look(0, 0) * 10 + log.look(1, 0), 19);
        CHECKS.due("the empty row's length", log.look(0, 1), 0);
        CHECKS.due("the longest row's length", log.look(1, 1), 40);
        for (int k = 2; k < 64; k++) {
            CHECKS.due("row " + k, log.end(1, true), k);
        }
        log.start();
        CHECKS.due("behind a start that found none", log.end(1, false), 0);
    }

    private static void endWithoutRoom() {
        CHECKS.sentence("Promise 3: NONE if there is no room");
        for (int sectors : new int[] {4, 64}) {
            HouseLog log = new HouseLog(sectors);
            Checks.pend(log, sectors - 2);
            log.add(77);
            CHECKS.refused("a row in the reserve", log, HouseLog.NONE, () -> log.end(9, false));
            log.sync();
            CHECKS.refused("a row in the reserve behind a sync", log, HouseLog.NONE, () -> log.end(9, false));
            CHECKS.due("a release in the reserve", log.end(9, true), sectors - 2);
            CHECKS.due("it has what was collected", log.at(sectors - 2, 0), 77);
            log.end(9, true);
            log.add(78);
            CHECKS.refused("a release without room", log, HouseLog.NONE, () -> log.end(9, true));
            CHECKS.refused("a row without room", log, HouseLog.NONE, () -> log.end(9, false));
            log.sync();
            log.start();
            CHECKS.refused("a release without room behind start", log, HouseLog.NONE, () -> log.end(9, true));
        }
    }

    private static void endOfNoKind() {
        CHECKS.sentence("Promise 3: IllegalArgumentException if there is no such KIND");
        HouseLog log = Checks.synced(4, 1);
        log.add(5);
        HouseLog full = Checks.full(4);
        for (int kind : new int[] {LEAST, -9, -1, 0, 10, 11, 255, 256, 257, MOST}) {
            CHECKS.refusedThrow("end(" + kind + ", false)", log, IllegalArgumentException.class, () -> log.end(kind, false));
            CHECKS.refusedThrow("end(" + kind + ", true)", log, IllegalArgumentException.class, () -> log.end(kind, true));
            CHECKS.refusedThrow("end(" + kind + ", true) without room", full, IllegalArgumentException.class,
                    () -> full.end(kind, true));
        }
        CHECKS.due("end(9, false)", log.end(9, false), 1);
        CHECKS.due("it has what was collected", log.at(1, 0), 5);
    }

    private static void endIfDown() {
        CHECKS.sentence("Promise 3: IllegalStateException if it is DOWN");
        HouseLog log = Checks.downLog();
        CHECKS.refusedThrow("end(1, false)", log, IllegalStateException.class, () -> log.end(1, false));
        CHECKS.refusedThrow("end(9, true)", log, IllegalStateException.class, () -> log.end(9, true));
        CHECKS.due("no row came of it", log.start(), 1);
        HouseLog full = new HouseLog(4);
        for (int k = 0; k < 4; k++) {
            full.end(1, true);
        }
        full.cut(7, 0);
        full.sync();
        CHECKS.refusedThrow("end of a full log", full, IllegalStateException.class, () -> full.end(1, false));
        CHECKS.due("all rows were whole on copy 0", full.start(), 4);
        CHECKS.due("end behind start", full.end(1, true), HouseLog.NONE);
    }

    private static void atTheEndsOfARow() {
        CHECKS.sentence("Promise 9: Byte i of a row");
        HouseLog log = new HouseLog(4);
        for (int i = 0; i < 40; i++) {
            log.add(255 - i);
        }
        log.end(1, false);
        Checks.row(log, 2, 128);
        CHECKS.due("at(0, 0)", log.at(0, 0), 255);
        CHECKS.due("at(0, 39)", log.at(0, 39), 216);
        CHECKS.due("at(1, 0)", log.at(1, 0), 128);
    }

    private static void atIfDown() {
        CHECKS.sentence("Promise 9: IllegalStateException if it is DOWN");
        HouseLog log = Checks.downLog();
        int[][] all = {{0, 0}, {0, -1}, {0, 2}, {-1, 0}, {1, 0}, {LEAST, MOST}};
        for (int[] a : all) {
            CHECKS.refusedThrow("at(" + a[0] + ", " + a[1] + ")", log, IllegalStateException.class, () -> log.at(a[0], a[1]));
        }
    }

    private static void atOfNoRow() {
        CHECKS.sentence("Promise 9: NoSuchElementException if there is no such row");
        HouseLog none = new HouseLog(4);
        CHECKS.refusedThrow("at(0, 0) of a new log", none, NoSuchElementException.class, () -> none.at(0, 0));
        HouseLog log = Checks.synced(4, 2);
        for (int row : new int[] {LEAST, -1, 2, 3, 4, 64, MOST}) {
            CHECKS.refusedThrow("at(" + row + ", 0)", log, NoSuchElementException.class, () -> log.at(row, 0));
            CHECKS.refusedThrow("at(" + row + ", 40)", log, NoSuchElementException.class, () -> log.at(row, 40));
        }
        HouseLog full = Checks.full(64);
        CHECKS.due("at(63, 0)", full.at(63, 0), 63);
        CHECKS.refusedThrow("at(64, 0)", full, NoSuchElementException.class, () -> full.at(64, 0));
    }

    private static void atOfNoByte() {
        CHECKS.sentence("Promise 9: ArrayIndexOutOfBoundsException if there is no such byte");
        HouseLog log = new HouseLog(4);
        Checks.row(log, 1);
        Checks.collect(log, 40);
        log.end(1, false);
        for (int i : new int[] {LEAST, -1, 40, 41, 64, 256, MOST}) {
            CHECKS.refusedThrow("at(0, " + i + ")", log, ArrayIndexOutOfBoundsException.class, () -> log.at(0, i));
            CHECKS.refusedThrow("at(1, " + i + ")", log, ArrayIndexOutOfBoundsException.class, () -> log.at(1, i));
        }
        CHECKS.refusedThrow("at(0, 0) of an empty row", log, ArrayIndexOutOfBoundsException.class, () -> log.at(0, 0));
        HouseLog one = Checks.full(4);
        CHECKS.refusedThrow("at(3, 1) of a row of one byte", one, ArrayIndexOutOfBoundsException.class, () -> one.at(3, 1));
    }

    // Sums written as numbers were reckoned outside of Java, with numbers that do not wrap.
    private static void extractOverRows() {
        CHECKS.sentence("Promise 11: The SUM over rows from one to another one: of each its KIND, LENGTH and bytes");
        HouseLog log = new HouseLog(64);
        for (int k = 0; k < 64; k++) {
            log.end(1, true);
        }
        CHECKS.due("from a row to itself", log.extract(0, 0), 0x9B8069F5);
        CHECKS.due("the number is not among it", log.extract(63, 63), 0x9B8069F5);
        CHECKS.due("all rows that can be", log.extract(0, 63), 0x653E766F);
        CHECKS.due("two rows", log.extract(62, 63), Checks.sum(1, 0, 1, 0));
        HouseLog bytes = new HouseLog(4);
        bytes.add(0);
        bytes.end(1, false);
        CHECKS.due("a byte of 0 counts", bytes.extract(0, 0), 0xD1F2AA22);
        bytes.sync();
        CHECKS.due("a row that is acknowledged", bytes.extract(0, 0), 0xD1F2AA22);
    }

    private static void extractIfDown() {
        CHECKS.sentence("Promise 11: IllegalStateException if it is DOWN");
        HouseLog log = Checks.downLog();
        int[][] all = {{0, 0}, {0, 1}, {1, 0}, {-1, -1}, {MOST, LEAST}};
        for (int[] a : all) {
            CHECKS.refusedThrow("extract(" + a[0] + ", " + a[1] + ")", log, IllegalStateException.class,
                    () -> log.extract(a[0], a[1]));
        }
    }

    private static void extractOfNoRows() {
        CHECKS.sentence("Promise 11: NoSuchElementException if there are no such rows");
        HouseLog none = new HouseLog(4);
        CHECKS.refusedThrow("extract(0, 0) of a new log", none, NoSuchElementException.class, () -> none.extract(0, 0));
        HouseLog log = Checks.synced(6, 3);
        int[][] all = {{-1, 0}, {-1, 2}, {-1, -1}, {0, 3}, {2, 3}, {3, 3}, {3, 4}, {LEAST, MOST}, {LEAST, 0}, {0, MOST},
            {MOST, MOST}, {LEAST, LEAST}};
        for (int[] a : all) {
            CHECKS.refusedThrow("extract(" + a[0] + ", " + a[1] + ")", log, NoSuchElementException.class,
                    () -> log.extract(a[0], a[1]));
        }
    }

    private static void extractBackwards() {
        CHECKS.sentence("Promise 11: or the first is behind the second");
        HouseLog log = Checks.synced(6, 3);
        int[][] all = {{1, 0}, {2, 1}, {2, 0}, {3, 2}, {0, -1}, {MOST, 0}, {0, LEAST}};
        for (int[] a : all) {
            CHECKS.refusedThrow("extract(" + a[0] + ", " + a[1] + ")", log, NoSuchElementException.class,
                    () -> log.extract(a[0], a[1]));
        }
        CHECKS.due("extract(2, 2)", log.extract(2, 2), Checks.sum(3, 2, 12, 22));
    }

    private static void lookAtTheEdges() {
        CHECKS.sentence("Promise 12: what 0: KIND, 1: LENGTH, 2: 1 if it is ACKNOWLEDGED, else 0");
        HouseLog log = new HouseLog(4);
        log.end(1, false);
        log.sync();
        Checks.collect(log, 40);
        log.end(9, false);
        int[][] want = {{1, 0, 1}, {9, 40, 0}};
        for (int row = 0; row < 2; row++) {
            for (int what = 0; what < 3; what++) {
                CHECKS.due("look(" + row + ", " + what + ")", log.look(row, what), want[row][what]);
            }
        }
        log.sync();
        CHECKS.due("look(1, 2) behind sync", log.look(1, 2), 1);
    }

    private static void lookIfDown() {
        CHECKS.sentence("Promise 12: IllegalStateException if it is DOWN");
        HouseLog log = Checks.downLog();
        int[][] all = {{0, 0}, {0, 2}, {0, 3}, {0, -1}, {-1, 0}, {1, 0}, {LEAST, MOST}};
        for (int[] a : all) {
            CHECKS.refusedThrow("look(" + a[0] + ", " + a[1] + ")", log, IllegalStateException.class, () -> log.look(a[0], a[1]));
        }
    }

    private static void lookAtNoRow() {
        CHECKS.sentence("Promise 12: NoSuchElementException if there is no such row");
        HouseLog none = new HouseLog(4);
        HouseLog log = Checks.synced(4, 2);
        for (int what = 0; what < 3; what++) {
            int w = what;
            CHECKS.refusedThrow("look(0, " + w + ") of a new log", none, NoSuchElementException.class, () -> none.look(0, w));
            for (int row : new int[] {LEAST, -1, 2, 4, 64, MOST}) {
                CHECKS.refusedThrow("look(" + row + ", " + w + ")", log, NoSuchElementException.class, () -> log.look(row, w));
            }
        }
    }

    private static void lookAtNoWhat() {
        CHECKS.sentence("Promise 12: or what");
        HouseLog log = Checks.synced(4, 2);
        for (int what : new int[] {LEAST, -1, 3, 4, 256, MOST}) {
            CHECKS.refusedThrow("look(0, " + what + ")", log, NoSuchElementException.class, () -> log.look(0, what));
            CHECKS.refusedThrow("look(1, " + what + ")", log, NoSuchElementException.class, () -> log.look(1, what));
        }
    }
}
