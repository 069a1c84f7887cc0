/** What all tests of the project share: a count of wrong answers, and calls that are due to throw. */
final class Checks {
    interface Call {
        long answer();
    }

    private int wrong = 0;

    void due(String call, long got, long want) {
        if (got != want) {
            tell(call + " answered " + got + ", due is " + want);
        }
    }

    void due(String call, boolean got, boolean want) {
        due(call, got ? 1L : 0L, want ? 1L : 0L);
    }

    void dueThrow(String call, Class<? extends RuntimeException> want, Call run) {
        String got = outcome(run);
        if (!got.equals(want.getName())) {
            tell(call + " answered " + got + ", due is throws " + want.getName());
        }
    }

    /** The answer as a text, or the exception's name; what the machine itself threw is marked as such. */
    static String outcome(Call run) {
        try {
            return Long.toString(run.answer());
        } catch (RuntimeException e) {
            return isMachines(e) ? "machine's " + e : e.getClass().getName();
        }
    }

    // The machine's own texts name the index or the value; the class's texts are fixed and begin with these words.
    private static boolean isMachines(RuntimeException e) {
        String text = e.getMessage();
        return text == null || !(text.startsWith("no such ") || text.equals("the log is down"));
    }

    void tell(String what) {
        wrong++;
        System.out.println(what);
    }

    void finish() {
        System.out.println(wrong == 0 ? "all answers are as due" : wrong + " answers are not as due");
        if (wrong != 0) {
            System.exit(1);
        }
    }

    /** Collects the bytes and ends a row of that kind. */
    static int row(HouseLog log, int kind, int... bytes) {
        for (int b : bytes) {
            log.add(b);
        }
        return log.end(kind, false);
    }

    /** A log of that many sectors with so many rows on the disk: row k has kind 1 + k % 9 and the bytes 10 + k, 20 + k. */
    static HouseLog synced(int sectors, int rows) {
        HouseLog log = new HouseLog(sectors);
        pend(log, rows);
        log.sync();
        return log;
    }

    static void pend(HouseLog log, int rows) {
        int first = log.count(1);
        for (int k = first; k < first + rows; k++) {
            row(log, 1 + k % 9, 10 + k, 20 + k);
        }
    }

    /** A log that a cut at its first write has brought down, with one row acknowledged before. */
    static HouseLog downLog() {
        HouseLog log = synced(8, 1);
        pend(log, 1);
        log.cut(0, 0);
        log.sync();
        return log;
    }

    static int sum(int... bytes) {
        int s = 0x9747B28C;
        for (int b : bytes) {
            s ^= b;
            s = (s << 9 | s >>> 23) * 0x85EBCA6B;
        }
        return s;
    }
}
