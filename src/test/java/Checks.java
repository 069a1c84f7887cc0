/** What all tests of the project share: a count of wrong answers, and calls that are due to throw. */
final class Checks {
    interface Call {
        long answer();
    }

    interface BooleanCall {
        boolean answer();
    }

    private int wrong = 0;
    private String sentence = "";

    /** A wrong answer from here on is told with these words of the document. */
    void sentence(String words) {
        sentence = "\"" + words + "\": ";
    }

    void due(String call, long got, long want) {
        if (got != want) {
            tell(call + " answered " + got + ", due is " + want);
        }
    }

    void due(String call, boolean got, boolean want) {
        due(call, got ? 1L : 0L, want ? 1L : 0L);
    }

    void dueThrow(String call, Class<? extends RuntimeException> want, Call run) {
        String got = outcome(run);
        if (!got.equals(want.getName())) {
            tell(call + " answered " + got + ", due is throws " + want.getName());
        }
    }

    /** A call that answers so and leaves all that can be seen of the log as it was. */
    void refused(String call, HouseLog log, long want, Call run) {
        String before = state(log);
        String got = outcome(run);
        if (!got.equals(Long.toString(want))) {
            tell(call + " answered " + got + ", due is " + want);
        }
        unaltered(call, log, before);
    }

    void refused(String call, HouseLog log, boolean want, BooleanCall run) {
        refused(call, log, want ? 1L : 0L, () -> run.answer() ? 1L : 0L);
    }

    void refusedThrow(String call, HouseLog log, Class<? extends RuntimeException> want, Call run) {
        String before = state(log);
        dueThrow(call, want, run);
        unaltered(call, log, before);
    }

    private void unaltered(String call, HouseLog log, String before) {
        if (!state(log).equals(before)) {
            tell(call + " altered the log");
        }
    }

    // These looks go beyond the 512 calls of the document now and then: the class keeps no count of its calls.
    private static String state(HouseLog log) {
        StringBuilder all = new StringBuilder();
        for (int what = 0; what < 8; what++) {
            all.append(log.count(what)).append(' ');
        }
        for (int row = 0; row < log.count(1); row++) {
            all.append(log.look(row, 0)).append(' ').append(log.look(row, 2)).append(' ');
            for (int i = 0; i < log.look(row, 1); i++) {
                all.append(log.at(row, i)).append(' ');
            }
        }
        for (int place = 0; place < 64 * log.count(0); place++) {
            all.append(log.disk(0, place)).append(' ').append(log.disk(1, place)).append(' ');
        }
        return all.toString();
    }

    /** The answer as a text, or the exception's name; what the machine itself threw is marked as such. */
    static String outcome(Call run) {
        try {
            return Long.toString(run.answer());
        } catch (RuntimeException e) {
            return isMachines(e) ? "machine's " + e : e.getClass().getName();
        }
    }

    // The machine's own texts name the index or the value; the class's texts are fixed and begin with these words.
    private static boolean isMachines(RuntimeException e) {
        String text = e.getMessage();
        return text == null || !(text.startsWith("no such ") || text.equals("the log is down"));
    }

    void tell(String what) {
        wrong++;
        System.out.println(sentence + what);
    }

    void finish() {
        System.out.println(wrong == 0 ? "all answers are as due" : wrong + " answers are not as due");
        if (wrong != 0) {
            System.exit(1);
        }
    }

    /** Collects the bytes and ends a row of that kind. */
    static int row(HouseLog log, int kind, int... bytes) {
        for (int b : bytes) {
            log.add(b);
        }
        return log.end(kind, false);
    }

    /** A log of that many sectors with so many rows on the disk: row k has kind 1 + k % 9 and the bytes 10 + k, 20 + k. */
    static HouseLog synced(int sectors, int rows) {
        HouseLog log = new HouseLog(sectors);
        pend(log, rows);
        log.sync();
        return log;
    }

    static void pend(HouseLog log, int rows) {
        int first = log.count(1);
        for (int k = first; k < first + rows; k++) {
            row(log, 1 + k % 9, 10 + k, 20 + k);
        }
    }

    /** A log whose sectors all have a row of kind 1 with one byte, on the disk too. */
    static HouseLog full(int sectors) {
        HouseLog log = new HouseLog(sectors);
        for (int k = 0; k < sectors; k++) {
            log.add(k);
            log.end(1, true);
        }
        log.sync();
        return log;
    }

    static void collect(HouseLog log, int many) {
        for (int i = 0; i < many; i++) {
            log.add(i + 1);
        }
    }

    /** A log that a cut at its first write has brought down, with one row acknowledged before. */
    static HouseLog downLog() {
        HouseLog log = synced(8, 1);
        pend(log, 1);
        log.cut(0, 0);
        log.sync();
        return log;
    }

    static int sum(int... bytes) {
        int s = 0x9747B28C;
        for (int b : bytes) {
            s ^= b;
            s = (s << 9 | s >>> 23) * 0x85EBCA6B;
        }
        return s;
    }

    /** Puts a row's sector on one copy by pokes, with its due sum, also where the number, kind or length can't be. */
    static void put(HouseLog log, int copy, int sector, int number, int kind, int... bytes) {
        int[] all = new int[6 + bytes.length];
        for (int i = 0; i < 4; i++) {
            all[i] = number >>> 24 - 8 * i & 255;
        }
        all[4] = kind;
        all[5] = bytes.length;
        System.arraycopy(bytes, 0, all, 6, bytes.length);
        for (int i = 0; i < all.length; i++) {
            setByte(log, copy, 64 * sector + i, all[i]);
        }
        for (int i = 0; i < 4; i++) {
            setByte(log, copy, 64 * sector + all.length + i, sum(all) >>> 24 - 8 * i & 255);
        }
    }

    static void setByte(HouseLog log, int copy, int place, int value) {
        log.poke(copy, place, log.disk(copy, place) ^ value);
    }
}
