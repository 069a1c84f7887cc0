/** Promises 7 and 8: bytes that are altered, and bytes of the copies. */
public final class DiskTest {
    private static final int[] NO_COPIES = {Integer.MIN_VALUE, -1, 2, Integer.MAX_VALUE};
    private static final int[] NO_PLACES = {Integer.MIN_VALUE, -1, 5 * 64, 5 * 64 + 1, 64 * 64, Integer.MAX_VALUE};
    private static final Checks CHECKS = new Checks();

    public static void main(String[] args) {
        pokeAlters();
        pokeWithWrongInputs();
        disk();
        ifDown();
        CHECKS.finish();
    }

    private static void pokeAlters() {
        HouseLog log = new HouseLog(5);
        for (int mask = 1; mask < 256; mask++) {
            int before = log.disk(1, 70);
            CHECKS.due("poke by " + mask, log.poke(1, 70, mask), true);
            CHECKS.due("the byte by " + mask, log.disk(1, 70), before ^ mask);
        }
        CHECKS.due("the other copy", log.disk(0, 70), 0);
        CHECKS.due("poke of the last place", log.poke(0, 5 * 64 - 1, 255), true);
        CHECKS.due("the last place", log.disk(0, 5 * 64 - 1), 255);
        CHECKS.due("poke of the first place", log.poke(0, 0, 128), true);
        CHECKS.due("the first place", log.disk(0, 0), 128);
        log.poke(0, 0, 128);
        CHECKS.due("the first place altered back", log.disk(0, 0), 0);
        CHECKS.due("pokes are no writes", log.count(6), 0);
    }

    private static void pokeWithWrongInputs() {
        HouseLog log = new HouseLog(5);
        for (int copy : NO_COPIES) {
            CHECKS.due("poke(" + copy + ", 0, 1)", log.poke(copy, 0, 1), false);
        }
        for (int place : NO_PLACES) {
            CHECKS.due("poke(0, " + place + ", 1)", log.poke(0, place, 1), false);
            CHECKS.due("poke(1, " + place + ", 1)", log.poke(1, place, 1), false);
        }
        for (int mask : new int[] {Integer.MIN_VALUE, -1, 0, 256, 257, Integer.MAX_VALUE}) {
            CHECKS.due("poke(0, 0, " + mask + ")", log.poke(0, 0, mask), false);
        }
        for (int place = 0; place < 5 * 64; place++) {
            CHECKS.due("byte " + place + " behind pokes that altered nothing", log.disk(0, place) + log.disk(1, place), 0);
        }
    }

    private static void disk() {
        HouseLog log = new HouseLog(5);
        for (int copy : NO_COPIES) {
            CHECKS.dueThrow("disk(" + copy + ", 0)", IllegalArgumentException.class, () -> log.disk(copy, 0));
            CHECKS.dueThrow("disk(" + copy + ", -1)", IllegalArgumentException.class, () -> log.disk(copy, -1));
        }
        for (int place : NO_PLACES) {
            CHECKS.dueThrow("disk(0, " + place + ")", ArrayIndexOutOfBoundsException.class, () -> log.disk(0, place));
            CHECKS.dueThrow("disk(1, " + place + ")", ArrayIndexOutOfBoundsException.class, () -> log.disk(1, place));
        }
    }

    private static void ifDown() {
        HouseLog down = Checks.downLog();
        CHECKS.due("disk if down", down.disk(0, 6), 10);
        CHECKS.due("poke if down", down.poke(0, 6, 1), true);
        CHECKS.due("disk behind it", down.disk(0, 6), 11);
        CHECKS.due("poke of no copy if down", down.poke(2, 6, 1), false);
    }
}
