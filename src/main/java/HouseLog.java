import java.util.NoSuchElementException;

/** A log of rows on two copies of a disk; ../shared/DOC.md says what each call must do. */
public final class HouseLog {
    public static final int NONE = -1;

    private static final int FEWEST_SECTORS = 4;
    private static final int MOST_SECTORS = 64;
    private static final int RESERVE = 2;
    private static final int SECTOR_BYTES = 64;
    private static final int KIND_PLACE = 4;
    private static final int LENGTH_PLACE = 5;
    private static final int HEAD_BYTES = 6;
    private static final int LEAST_KIND = 1;
    private static final int MOST_KIND = 9;
    private static final int MOST_LENGTH = 40;
    private static final int LOWEST_BYTE = 0xFF;
    private static final int SUM_START = 0x9747B28C;
    private static final int SUM_TURN = 9;
    private static final int SUM_FACTOR = 0x85EBCA6B;

    private final int sectors;
    private final Sectors copy0;
    private final Sectors copy1;
    private final Sectors memory;
    private final Bytes collected;
    private int collectedBytes;
    private int rows;
    private int acknowledged;
    private boolean down;
    private int writesUntilCut;
    private int tornBytes;
    private int mended;
    private int writes;

    public HouseLog(int sectors) {
        this.sectors = Math.max(FEWEST_SECTORS, Math.min(MOST_SECTORS, sectors));
        copy0 = new Sectors(this.sectors);
        copy1 = new Sectors(this.sectors);
        memory = new Sectors(this.sectors);
        collected = new Bytes(MOST_LENGTH);
        writesUntilCut = NONE;
    }

    public boolean add(int b) {
        if (down || collectedBytes >= MOST_LENGTH) {
            return false;
        }
        collected.set(collectedBytes, b);
        collectedBytes++;
        return true;
    }

    public int end(int kind, boolean release) throws IllegalArgumentException, IllegalStateException {
        if (!isKind(kind)) {
            throw new IllegalArgumentException("no such kind");
        }
        refuseIfDown();
        if (roomFor(release) == 0) {
            return NONE;
        }
        int row = rows;
        memory.compose(row, kind, collected, collectedBytes);
        rows++;
        collectedBytes = 0;
        return row;
    }

    public int sync() throws IllegalStateException {
        refuseIfDown();
        for (int row = acknowledged; row < rows; row++) {
            if (!writeWhole(copy0, row) || !writeWhole(copy1, row)) {
                goDown();
                return NONE;
            }
        }
        acknowledged = rows;
        return acknowledged;
    }

    public boolean cut(int keep, int tear) {
        if (down || keep < NONE || tear < 0 || tear >= SECTOR_BYTES) {
            return false;
        }
        writesUntilCut = keep;
        tornBytes = tear;
        return true;
    }

    public int start() {
        mended = 0;
        rows = 0;
        while (rows < sectors && findRow(rows)) {
            rows++;
        }
        acknowledged = rows;
        down = false;
        return rows;
    }

    public boolean poke(int copy, int place, int mask) {
        if (!isCopy(copy) || !isPlace(place) || mask < 1 || mask > LOWEST_BYTE) {
            return false;
        }
        Bytes bytes = copyOf(copy).bytes;
        bytes.set(place, bytes.get(place) ^ mask);
        return true;
    }

    public int disk(int copy, int place) throws IllegalArgumentException, ArrayIndexOutOfBoundsException {
        if (!isCopy(copy)) {
            throw new IllegalArgumentException("no such copy");
        }
        if (!isPlace(place)) {
            throw new ArrayIndexOutOfBoundsException("no such place");
        }
        return copyOf(copy).bytes.get(place);
    }

    public int at(int row, int i) throws IllegalStateException, NoSuchElementException, ArrayIndexOutOfBoundsException {
        refuseIfDown();
        if (!isRow(row)) {
            throw new NoSuchElementException("no such row");
        }
        if (i < 0 || i >= memory.length(row)) {
            throw new ArrayIndexOutOfBoundsException("no such byte");
        }
        return memory.content(row, i);
    }

    public int verify() throws IllegalStateException {
        refuseIfDown();
        for (int sector = 0; sector < acknowledged; sector++) {
            if (!copy0.isRight(sector)) {
                return 2 * sector + 1;
            }
            if (!copy1.isRight(sector)) {
                return 2 * sector + 2;
            }
        }
        return 0;
    }

    public int extract(int from, int to) throws IllegalStateException, NoSuchElementException {
        refuseIfDown();
        if (!isRow(from) || !isRow(to) || from > to) {
            throw new NoSuchElementException("no such rows");
        }
        int sum = SUM_START;
        for (int row = from; row <= to; row++) {
            sum = memory.sumBehindNumber(sum, row);
        }
        return sum;
    }

    public int look(int row, int what) throws IllegalStateException, NoSuchElementException {
        refuseIfDown();
        if (!isRow(row)) {
            throw new NoSuchElementException("no such row");
        }
        switch (what) {
            case 0:
                return memory.kind(row);
            case 1:
                return memory.length(row);
            case 2:
                return row < acknowledged ? 1 : 0;
            default:
                throw new NoSuchElementException("no such what");
        }
    }

    public int count(int what) {
        switch (what) {
            case 0:
                return sectors;
            case 1:
                return down ? NONE : rows;
            case 2:
                return acknowledged;
            case 3:
                return collectedBytes;
            case 4:
                return down ? 1 : 0;
            case 5:
                return mended;
            case 6:
                return writes;
            case 7:
                return down ? 0 : roomFor(false);
            default:
                return NONE;
        }
    }

    private void refuseIfDown() {
        if (down) {
            throw new IllegalStateException("the log is down");
        }
    }

    private static boolean isKind(int kind) {
        return kind >= LEAST_KIND && kind <= MOST_KIND;
    }

    private static boolean isCopy(int copy) {
        return copy == 0 || copy == 1;
    }

    private boolean isPlace(int place) {
        return place >= 0 && place < sectors * SECTOR_BYTES;
    }

    private boolean isRow(int row) {
        return row >= 0 && row < rows;
    }

    private Sectors copyOf(int copy) {
        return copy == 0 ? copy0 : copy1;
    }

    private int roomFor(boolean release) {
        int open = release ? sectors : sectors - RESERVE;
        return Math.max(0, open - rows);
    }

    private boolean writeWhole(Sectors copy, int row) {
        writes++;
        if (writesUntilCut == 0) {
            copy.take(memory, row, tornBytes);
            return false;
        }
        if (writesUntilCut > 0) {
            writesUntilCut--;
        }
        copy.take(memory, row, SECTOR_BYTES);
        return true;
    }

    // The acknowledged count stays: rows of a sync that was cut are acknowledged by the next start at the earliest.
    private void goDown() {
        down = true;
        writesUntilCut = NONE;
        rows = acknowledged;
        collectedBytes = 0;
    }

    private boolean findRow(int sector) {
        boolean right0 = copy0.isRight(sector);
        boolean right1 = copy1.isRight(sector);
        if (!right0 && !right1) {
            return false;
        }
        if (!right0) {
            mend(copy0, copy1, sector);
        } else if (!right1) {
            mend(copy1, copy0, sector);
        }
        memory.take(copy0, sector, SECTOR_BYTES);
        return true;
    }

    // A mend is no write of a sync: it neither counts as one nor brings a cut nearer.
    private void mend(Sectors wrong, Sectors right, int sector) {
        wrong.take(right, sector, SECTOR_BYTES);
        mended++;
    }

    /** Bytes as numbers 0 .. 255. Every index is tested here, so that no caller can make the machine throw. */
    private static final class Bytes {
        private final byte[] held;

        Bytes(int size) {
            held = new byte[Math.max(0, size)];
        }

        int get(int place) {
            return place >= 0 && place < held.length ? held[place] & LOWEST_BYTE : 0;
        }

        void set(int place, int value) {
            if (place >= 0 && place < held.length) {
                held[place] = (byte) value;
            }
        }

        int word(int place) {
            return get(place) << 24 | get(place + 1) << 16 | get(place + 2) << 8 | get(place + 3);
        }

        void setWord(int place, int value) {
            set(place, value >>> 24);
            set(place + 1, value >>> 16);
            set(place + 2, value >>> 8);
            set(place + 3, value);
        }

        int sumOn(int sum, int from, int until) {
            int s = sum;
            for (int place = from; place < until; place++) {
                int mixed = s ^ get(place);
                s = (mixed << SUM_TURN | mixed >>> 32 - SUM_TURN) * SUM_FACTOR;
            }
            return s;
        }
    }

    /** Sectors laid out as on the disk. The rows in memory have this form too, so a write is a plain copy. */
    private static final class Sectors {
        private final Bytes bytes;

        Sectors(int many) {
            bytes = new Bytes(many * SECTOR_BYTES);
        }

        int kind(int sector) {
            return bytes.get(firstPlace(sector) + KIND_PLACE);
        }

        int length(int sector) {
            return bytes.get(firstPlace(sector) + LENGTH_PLACE);
        }

        int content(int sector, int i) {
            return bytes.get(firstPlace(sector) + HEAD_BYTES + i);
        }

        // The bytes behind the sum are not looked at: the document asks nothing of them here.
        boolean isRight(int sector) {
            return bytes.word(firstPlace(sector)) == sector
                    && isKind(kind(sector))
                    && length(sector) <= MOST_LENGTH
                    && bytes.word(sumPlace(sector)) == rowSum(sector);
        }

        void compose(int sector, int kind, Bytes content, int length) {
            int first = firstPlace(sector);
            bytes.setWord(first, sector);
            bytes.set(first + KIND_PLACE, kind);
            bytes.set(first + LENGTH_PLACE, length);
            for (int i = 0; i < length; i++) {
                bytes.set(first + HEAD_BYTES + i, content.get(i));
            }
            bytes.setWord(sumPlace(sector), rowSum(sector));
            for (int place = sumPlace(sector) + 4; place < first + SECTOR_BYTES; place++) {
                bytes.set(place, 0);
            }
        }

        void take(Sectors other, int sector, int many) {
            int first = firstPlace(sector);
            for (int place = first; place < first + many; place++) {
                bytes.set(place, other.bytes.get(place));
            }
        }

        int sumBehindNumber(int sum, int sector) {
            return bytes.sumOn(sum, firstPlace(sector) + KIND_PLACE, sumPlace(sector));
        }

        private int rowSum(int sector) {
            return bytes.sumOn(SUM_START, firstPlace(sector), sumPlace(sector));
        }

        private int sumPlace(int sector) {
            return firstPlace(sector) + HEAD_BYTES + length(sector);
        }

        private static int firstPlace(int sector) {
            return sector * SECTOR_BYTES;
        }
    }
}
