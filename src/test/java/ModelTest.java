import java.util.ArrayList;
import java.util.Arrays;
import java.util.List;
import java.util.NoSuchElementException;

/** Long runs of calls against a second, slow writing of the document; the same runs each time. */
public final class ModelTest {
    private static final int RUNS = 3000;
    private static final int CALLS = 512;
    private static final String[] OFTEN = {"add", "add", "add", "add", "add", "add", "add", "add", "end", "end", "end", "sync", "sync",
        "cut", "start", "poke", "disk", "at", "at", "verify", "verify", "extract", "extract", "look", "look", "count"};
    private static final int[] WILD = {Integer.MIN_VALUE, -2, -1, 0, 1, 2, 63, 64, 256, Integer.MAX_VALUE};

    private static final Checks CHECKS = new Checks();
    private static long seed;

    public static void main(String[] args) {
        for (int run = 0; run < RUNS; run++) {
            seed = run;
            // One wrong run tells enough; its calls are many.
            if (!oneRun(run)) {
                break;
            }
        }
        CHECKS.finish();
    }

    private static int below(int bound) {
        seed = seed * 6364136223846793005L + 1442695040888963407L;
        return (int) ((seed >>> 33) % bound);
    }

    /** Mostly a number from..to-1, now and then a wild one. */
    private static int some(int from, int to) {
        return below(25) == 0 ? WILD[below(WILD.length)] : from + below(Math.max(1, to - from));
    }

    private static boolean oneRun(int run) {
        int size = below(4) == 0 ? some(-3, 80) : 4 + below(5);
        HouseLog log = new HouseLog(size);
        Model model = new Model(size);
        StringBuilder told = new StringBuilder("new HouseLog(" + size + ")");
        for (int i = 0; i < CALLS; i++) {
            String name = OFTEN[below(OFTEN.length)];
            int[] in = inputs(name, model);
            told.append("; ").append(name).append(Arrays.toString(in));
            String got = Checks.outcome(() -> call(log, name, in));
            String want = Checks.outcome(() -> model.call(name, in));
            if (!got.equals(want) || !sameState(log, model)) {
                CHECKS.tell("run " + run + ": answered " + got + ", due is " + want + " or another state, behind " + told);
                return false;
            }
        }
        return true;
    }

    private static int[] inputs(String name, Model model) {
        int rows = model.rows.size();
        switch (name) {
            case "add":
                return new int[] {some(0, 300)};
            case "end":
                return new int[] {some(1, 10), below(2)};
            case "cut":
                return new int[] {some(-1, 7), some(0, 64)};
            case "poke":
                int mask = below(2) == 0 ? some(1, 256) : 1 << below(8);
                return new int[] {some(0, 2), some(0, 64 * (below(2) == 0 ? model.size : rows)), mask};
            case "disk":
                return new int[] {some(0, 2), some(0, 64 * model.size)};
            case "at":
                return new int[] {some(0, rows), some(0, 10)};
            case "extract":
                return new int[] {some(0, rows), some(0, rows)};
            case "look":
                return new int[] {some(0, rows), some(0, 3)};
            case "count":
                return new int[] {some(0, 8)};
            default:
                return new int[0];
        }
    }

    private static boolean sameState(HouseLog log, Model model) {
        for (int what = 0; what < 8; what++) {
            if (log.count(what) != model.count(what)) {
                return false;
            }
        }
        for (int place = 0; place < 64 * model.size; place++) {
            if (log.disk(0, place) != model.disk[0][place] || log.disk(1, place) != model.disk[1][place]) {
                return false;
            }
        }
        return true;
    }

    private static long call(HouseLog log, String name, int[] in) {
        switch (name) {
            case "add":
                return log.add(in[0]) ? 1 : 0;
            case "end":
                return log.end(in[0], in[1] == 1);
            case "sync":
                return log.sync();
            case "cut":
                return log.cut(in[0], in[1]) ? 1 : 0;
            case "start":
                return log.start();
            case "poke":
                return log.poke(in[0], in[1], in[2]) ? 1 : 0;
            case "disk":
                return log.disk(in[0], in[1]);
            case "at":
                return log.at(in[0], in[1]);
            case "verify":
                return log.verify();
            case "extract":
                return log.extract(in[0], in[1]);
            case "look":
                return log.look(in[0], in[1]);
            default:
                return log.count(in[0]);
        }
    }

    /** The log in another form: a row is an array of its kind, its length and its bytes. */
    private static final class Model {
        final int size;
        final int[][] disk;
        List<int[]> rows = new ArrayList<>();
        List<Integer> collected = new ArrayList<>();
        int acknowledged;
        boolean down;
        boolean cutTold;
        long keep;
        int tear;
        int mended;
        int writes;

        Model(int sectors) {
            size = sectors < 4 ? 4 : sectors > 64 ? 64 : sectors;
            disk = new int[2][64 * size];
        }

        long call(String name, int[] in) {
            switch (name) {
                case "add":
                    return add(in[0]);
                case "end":
                    return end(in[0], in[1] == 1);
                case "sync":
                    return sync();
                case "cut":
                    return cut(in[0], in[1]);
                case "start":
                    return start();
                case "poke":
                    return poke(in[0], in[1], in[2]);
                case "disk":
                    return byteOf(in[0], in[1]);
                case "at":
                    return at(in[0], in[1]);
                case "verify":
                    return verify();
                case "extract":
                    return extract(in[0], in[1]);
                case "look":
                    return look(in[0], in[1]);
                default:
                    return count(in[0]);
            }
        }

        int add(int b) {
            if (down || collected.size() == 40) {
                return 0;
            }
            collected.add(Math.floorMod(b, 256));
            return 1;
        }

        int at(int k, int i) {
            up();
            int[] row = row(k);
            check(i >= 0 && i < row[1]);
            return row[2 + i];
        }

        void up() {
            if (down) {
                throw new IllegalStateException("the log is down");
            }
        }

        void check(boolean inside) {
            if (!inside) {
                throw new ArrayIndexOutOfBoundsException("no such place");
            }
        }

        int[] row(int k) {
            if (k < 0 || k >= rows.size()) {
                throw new NoSuchElementException("no such row");
            }
            return rows.get(k);
        }

        int end(int kind, boolean release) {
            if (kind < 1 || kind > 9) {
                throw new IllegalArgumentException("no such kind");
            }
            up();
            if (rows.size() == size || !release && rows.size() >= size - 2) {
                return -1;
            }
            int[] row = new int[2 + collected.size()];
            row[0] = kind;
            row[1] = collected.size();
            for (int i = 0; i < collected.size(); i++) {
                row[2 + i] = collected.get(i);
            }
            collected.clear();
            rows.add(row);
            return rows.size() - 1;
        }

        int[] image(int k) {
            int[] row = rows.get(k);
            int[] all = new int[64];
            all[3] = k;
            System.arraycopy(row, 0, all, 4, row.length);
            int sum = Checks.sum(Arrays.copyOf(all, 4 + row.length));
            for (int i = 0; i < 4; i++) {
                all[4 + row.length + i] = sum >> 24 - 8 * i & 255;
            }
            return all;
        }

        int sync() {
            up();
            for (int write = 2 * acknowledged; write < 2 * rows.size(); write++) {
                boolean torn = cutTold && keep-- == 0;
                writes++;
                System.arraycopy(image(write / 2), 0, disk[write % 2], 64 * (write / 2), torn ? tear : 64);
                if (torn) {
                    down = true;
                    cutTold = false;
                    collected.clear();
                    return -1;
                }
            }
            return acknowledged = rows.size();
        }

        int cut(int a, int b) {
            if (down || a < -1 || b < 0 || b > 63) {
                return 0;
            }
            cutTold = a != -1;
            keep = a;
            tear = b;
            return 1;
        }

        boolean right(int copy, int k) {
            int[] s = Arrays.copyOfRange(disk[copy], 64 * k, 64 * k + 64);
            if (s[0] != 0 || s[1] != 0 || s[2] != 0 || s[3] != k || s[4] < 1 || s[4] > 9 || s[5] > 40) {
                return false;
            }
            int n = 6 + s[5];
            long sum = ((s[n] * 256L + s[n + 1]) * 256 + s[n + 2]) * 256 + s[n + 3];
            return (int) sum == Checks.sum(Arrays.copyOf(s, n));
        }

        int start() {
            rows = new ArrayList<>();
            mended = 0;
            for (int k = 0; k < size && (right(0, k) || right(1, k)); k++) {
                for (int copy = 0; copy < 2; copy++) {
                    if (!right(copy, k)) {
                        System.arraycopy(disk[1 - copy], 64 * k, disk[copy], 64 * k, 64);
                        mended++;
                    }
                }
                rows.add(Arrays.copyOfRange(disk[0], 64 * k + 4, 64 * k + 6 + disk[0][64 * k + 5]));
            }
            down = false;
            return acknowledged = rows.size();
        }

        int poke(int copy, int place, int mask) {
            if (copy < 0 || copy > 1 || place < 0 || place >= 64 * size || mask < 1 || mask > 255) {
                return 0;
            }
            disk[copy][place] ^= mask;
            return 1;
        }

        int byteOf(int copy, int place) {
            if (copy < 0 || copy > 1) {
                throw new IllegalArgumentException("no such copy");
            }
            check(place >= 0 && place < 64 * size);
            return disk[copy][place];
        }

        int verify() {
            up();
            for (int place = 0; place < 2 * acknowledged; place++) {
                if (!right(place % 2, place / 2)) {
                    return place + 1;
                }
            }
            return 0;
        }

        int extract(int from, int to) {
            up();
            row(from);
            row(to);
            if (from > to) {
                throw new NoSuchElementException("no such rows");
            }
            int[] all = new int[0];
            for (int k = from; k <= to; k++) {
                int before = all.length;
                all = Arrays.copyOf(all, before + row(k).length);
                System.arraycopy(row(k), 0, all, before, row(k).length);
            }
            return Checks.sum(all);
        }

        int look(int k, int what) {
            up();
            int[] row = row(k);
            if (what < 0 || what > 2) {
                throw new NoSuchElementException("no such what");
            }
            return what < 2 ? row[what] : k < acknowledged ? 1 : 0;
        }

        int count(int what) {
            int room = down ? 0 : Math.max(0, size - 2 - rows.size());
            int[] all = {size, down ? -1 : rows.size(), acknowledged, collected.size(), down ? 1 : 0, mended, writes, room};
            return what < 0 || what > 7 ? -1 : all[what];
        }
    }
}
