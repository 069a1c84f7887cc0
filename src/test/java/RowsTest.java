import java.util.NoSuchElementException;

/** Promises 1, 2, 3, 9, 11 and 12: a new object, and rows as they are in memory. */
public final class RowsTest {
    private static final Checks CHECKS = new Checks();

    public static void main(String[] args) {
        newObject();
        add();
        end();
        endWithoutRoom();
        at();
        extract();
        look();
        memoryIsNotTheDisk();
        CHECKS.finish();
    }

    private static void newObject() {
        int[][] held = {{Integer.MIN_VALUE, 4}, {-1, 4}, {0, 4}, {3, 4}, {4, 4}, {5, 5}, {63, 63}, {64, 64}, {65, 64},
            {Integer.MAX_VALUE, 64}};
        for (int[] h : held) {
            HouseLog log = new HouseLog(h[0]);
            CHECKS.due("new HouseLog(" + h[0] + ").count(0)", log.count(0), h[1]);
            for (int copy = 0; copy < 2; copy++) {
                for (int place = 0; place < 64 * h[1]; place++) {
                    CHECKS.due("a new disk's byte " + place, log.disk(copy, place), 0);
                }
                int c = copy;
                CHECKS.dueThrow("disk behind the last place", ArrayIndexOutOfBoundsException.class, () -> log.disk(c, 64 * h[1]));
            }
        }
        HouseLog log = new HouseLog(10);
        int[] counts = {10, 0, 0, 0, 0, 0, 0, 8};
        for (int what = 0; what < counts.length; what++) {
            CHECKS.due("a new object's count(" + what + ")", log.count(what), counts[what]);
        }
    }

    private static void add() {
        HouseLog log = new HouseLog(4);
        for (int i = 0; i < 40; i++) {
            CHECKS.due("count(3) before add " + i, log.count(3), i);
            CHECKS.due("add " + i, log.add(i - 3), true);
        }
        CHECKS.due("the 41st add", log.add(1), false);
        CHECKS.due("count(3) behind the 41st add", log.count(3), 40);
        log.end(1, false);
        for (int i = 0; i < 40; i++) {
            CHECKS.due("at(0, " + i + ")", log.at(0, i), i - 3 & 255);
        }
        CHECKS.due("add behind end", log.add(Integer.MIN_VALUE), true);
        HouseLog down = Checks.downLog();
        CHECKS.due("add if down", down.add(1), false);
        CHECKS.due("count(3) if down", down.count(3), 0);
        down.start();
        CHECKS.due("add behind start", down.add(1), true);
    }

    private static void end() {
        HouseLog log = new HouseLog(16);
        for (int kind = 1; kind <= 9; kind++) {
            log.add(kind);
            CHECKS.due("end of kind " + kind, log.end(kind, false), kind - 1);
            CHECKS.due("count(3) behind end", log.count(3), 0);
            CHECKS.due("count(1) behind end", log.count(1), kind);
        }
        CHECKS.due("end of an empty row", log.end(1, false), 9);
        CHECKS.due("its length", log.look(9, 1), 0);
        CHECKS.due("the disk before a sync", log.disk(0, 4), 0);
        log.add(77);
        for (int kind : new int[] {Integer.MIN_VALUE, -1, 0, 10, 11, Integer.MAX_VALUE}) {
            CHECKS.dueThrow("end of kind " + kind, IllegalArgumentException.class, () -> log.end(kind, true));
        }
        CHECKS.due("count(1) behind wrong kinds", log.count(1), 10);
        CHECKS.due("count(3) behind wrong kinds", log.count(3), 1);
        HouseLog down = Checks.downLog();
        CHECKS.dueThrow("end if down", IllegalStateException.class, () -> down.end(1, true));
        CHECKS.dueThrow("end of no kind if down", IllegalArgumentException.class, () -> down.end(0, true));
    }

    private static void endWithoutRoom() {
        HouseLog log = new HouseLog(5);
        Checks.pend(log, 3);
        log.add(5);
        CHECKS.due("end in the reserve", log.end(1, false), HouseLog.NONE);
        CHECKS.due("what was collected stays", log.count(3), 1);
        CHECKS.due("end of a release in the reserve", log.end(2, true), 3);
        CHECKS.due("it has what was collected", log.at(3, 0), 5);
        CHECKS.due("end behind a release", log.end(1, false), HouseLog.NONE);
        CHECKS.due("end of the last release", log.end(2, true), 4);
        log.add(6);
        CHECKS.due("end of a release without room", log.end(2, true), HouseLog.NONE);
        CHECKS.dueThrow("end of no kind without room", IllegalArgumentException.class, () -> log.end(10, true));
        CHECKS.due("rows", log.count(1), 5);
        CHECKS.due("collected", log.count(3), 1);
        CHECKS.due("a release outside the reserve", new HouseLog(4).end(1, true), 0);
    }

    private static void at() {
        HouseLog log = new HouseLog(6);
        Checks.row(log, 1, 255, 128, 0);
        Checks.row(log, 2);
        CHECKS.due("at(0, 0)", log.at(0, 0), 255);
        CHECKS.due("at(0, 1)", log.at(0, 1), 128);
        CHECKS.due("at(0, 2)", log.at(0, 2), 0);
        for (int i : new int[] {Integer.MIN_VALUE, -1, 3, 40, Integer.MAX_VALUE}) {
            CHECKS.dueThrow("at(0, " + i + ")", ArrayIndexOutOfBoundsException.class, () -> log.at(0, i));
        }
        CHECKS.dueThrow("at(1, 0)", ArrayIndexOutOfBoundsException.class, () -> log.at(1, 0));
        for (int row : new int[] {Integer.MIN_VALUE, -1, 2, 6, Integer.MAX_VALUE}) {
            CHECKS.dueThrow("at(" + row + ", -1)", NoSuchElementException.class, () -> log.at(row, -1));
        }
        HouseLog down = Checks.downLog();
        CHECKS.dueThrow("at(0, 0) if down", IllegalStateException.class, () -> down.at(0, 0));
        CHECKS.dueThrow("at(9, 99) if down", IllegalStateException.class, () -> down.at(9, 99));
    }

    private static void extract() {
        HouseLog log = new HouseLog(6);
        Checks.row(log, 3, 200, 2);
        Checks.row(log, 9);
        log.sync();
        Checks.row(log, 4, 7);
        CHECKS.due("extract(0, 0)", log.extract(0, 0), Checks.sum(3, 2, 200, 2));
        CHECKS.due("extract(0, 2)", log.extract(0, 2), Checks.sum(3, 2, 200, 2, 9, 0, 4, 1, 7));
        CHECKS.due("extract(1, 2)", log.extract(1, 2), Checks.sum(9, 0, 4, 1, 7));
        CHECKS.due("extract(2, 2)", log.extract(2, 2), Checks.sum(4, 1, 7));
        int[][] none = {{-1, 0}, {0, 3}, {1, 0}, {2, 1}, {3, 3}, {-1, -1}, {Integer.MIN_VALUE, Integer.MAX_VALUE}, {0, -1}, {3, 0}};
        for (int[] n : none) {
            CHECKS.dueThrow("extract(" + n[0] + ", " + n[1] + ")", NoSuchElementException.class, () -> log.extract(n[0], n[1]));
        }
        CHECKS.dueThrow("extract of no rows", NoSuchElementException.class, () -> new HouseLog(4).extract(0, 0));
        HouseLog down = Checks.downLog();
        CHECKS.dueThrow("extract if down", IllegalStateException.class, () -> down.extract(0, 0));
        CHECKS.dueThrow("extract of no rows if down", IllegalStateException.class, () -> down.extract(5, 0));
    }

    private static void look() {
        HouseLog log = Checks.synced(6, 1);
        Checks.row(log, 9, 1, 2, 3);
        int[][] want = {{1, 2, 1}, {9, 3, 0}};
        for (int row = 0; row < 2; row++) {
            for (int what = 0; what < 3; what++) {
                CHECKS.due("look(" + row + ", " + what + ")", log.look(row, what), want[row][what]);
            }
        }
        for (int what : new int[] {Integer.MIN_VALUE, -1, 3, Integer.MAX_VALUE}) {
            CHECKS.dueThrow("look(0, " + what + ")", NoSuchElementException.class, () -> log.look(0, what));
        }
        for (int row : new int[] {Integer.MIN_VALUE, -1, 2, Integer.MAX_VALUE}) {
            CHECKS.dueThrow("look(" + row + ", 0)", NoSuchElementException.class, () -> log.look(row, 0));
        }
        HouseLog down = Checks.downLog();
        CHECKS.dueThrow("look if down", IllegalStateException.class, () -> down.look(0, 0));
        CHECKS.dueThrow("look at nothing if down", IllegalStateException.class, () -> down.look(-1, 9));
    }

    private static void memoryIsNotTheDisk() {
        HouseLog log = Checks.synced(6, 2);
        int before = log.extract(0, 1);
        for (int copy = 0; copy < 2; copy++) {
            for (int place = 0; place < 128; place++) {
                log.poke(copy, place, 255);
            }
        }
        CHECKS.due("at behind pokes", log.at(1, 0), 11);
        CHECKS.due("kind behind pokes", log.look(1, 0), 2);
        CHECKS.due("extract behind pokes", log.extract(0, 1), before);
    }
}
