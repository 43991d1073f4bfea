/**
 * Calls to a ledger, done by several workers at once, each ahead of what it hangs on.
 * The words in the comments (CALL, RUN, TICK, KEPT ..) are those of the document.
 */
public final class LedgerShares {
    public static final int NONE = -1, BAD = -2, STATE = -3, FULL = -4, REFUSED = -5;

    private static final int MOST_KEY = 7;
    private static final int MOST_CALLS = 40;
    private static final int MOST_OP = 5;
    private static final int MOST_NUMBER = 1000000;
    private static final int MOST_STEPS = 9;
    private static final int MOST_WORKERS = 16;
    private static final int MOST_BEGIN = 99;
    private static final int MOST_ROOM = 40;
    private static final int MOST_TICKS = 30000;

    private final Book book;
    private final Run second;
    private Run latest;
    private Run spare;
    private boolean hasRun;
    private int runsDone;
    private int runsRefused;

    public LedgerShares() {
        Book made = new Book();
        book = made;
        latest = new Run(made);
        spare = new Run(made);
        second = new Run(made);
    }

    public int call(int op, int a, int b, int c, int steps) {
        if (!within(op, 0, MOST_OP) || !within(a, 0, MOST_KEY) || !within(b, 0, MOST_KEY)) {
            return BAD;
        }
        if (!within(c, -MOST_NUMBER, MOST_NUMBER) || !within(steps, 1, MOST_STEPS)) {
            return BAD;
        }
        return book.enter(op, a, b, c, steps);
    }

    public int clear() {
        int had = book.size;
        book.size = 0;
        hasRun = false;
        runsDone = 0;
        runsRefused = 0;
        return had;
    }

    public int gone(int worker, int n) {
        if (!within(worker, 0, MOST_WORKERS - 1) || !within(n, 0, MOST_BEGIN)) {
            return BAD;
        }
        int before = book.goneAt[worker];
        book.goneAt[worker] = n;
        return before;
    }

    public int run(int calls, int workers, int seed, int room) {
        if (!within(calls, 0, book.size) || !isCrew(workers) || !within(room, 1, MOST_ROOM)) {
            return BAD;
        }
        // Worked in the spare one, so that a refused RUN leaves the latest as it was.
        if (!spare.goesThrough(calls, workers, seed, room)) {
            runsRefused++;
            return REFUSED;
        }
        Run done = spare;
        spare = latest;
        latest = done;
        hasRun = true;
        runsDone++;
        return done.ticks;
    }

    public long amount(int key) {
        if (!hasRun || !within(key, 0, MOST_KEY)) {
            return 0;
        }
        return latest.sheet.standing(latest.calls, key);
    }

    public long behind(int n, int key) {
        int most = hasRun ? latest.calls : MOST_CALLS;
        if (!within(n, 0, most) || !within(key, 0, MOST_KEY)) {
            return BAD;
        }
        if (!hasRun) {
            return STATE;
        }
        return latest.sheet.standing(n, key);
    }

    public int outcome(int call) {
        if (!isCall(call)) {
            return BAD;
        }
        return wasInLatest(call) ? latest.sheet.outcomes[call] : 0;
    }

    public int of(int call, int what) {
        if (!isCall(call) || !within(what, 0, 3)) {
            return BAD;
        }
        return wasInLatest(call) ? latest.sheet.figure(call, what) : NONE;
    }

    public int told(int what) {
        if (!within(what, 0, 7)) {
            return BAD;
        }
        return hasRun ? latest.total(what) : STATE;
    }

    public boolean same(int workers, int seed, int otherWorkers, int otherSeed) {
        if (!isCrew(workers) || !isCrew(otherWorkers)) {
            return false;
        }
        return spare.goesThrough(book.size, workers, seed, MOST_ROOM)
            && second.goesThrough(book.size, otherWorkers, otherSeed, MOST_ROOM)
            && spare.leavesLike(second);
    }

    public int count(int what) {
        switch (what) {
            case 0: return book.size;
            case 1: return runsDone;
            case 2: return runsRefused;
            default: return BAD;
        }
    }

    private boolean isCall(int call) {
        return within(call, 0, book.size - 1);
    }

    private boolean wasInLatest(int call) {
        return hasRun && within(call, 0, latest.calls - 1);
    }

    private static boolean isCrew(int workers) {
        return within(workers, 1, MOST_WORKERS);
    }

    private static boolean within(int value, int least, int most) {
        return value >= least && value <= most;
    }

    /** What the object has been told: its CALLS, and when WORKERS are to be GONE. */
    private static final class Book {
        int size;
        final int[] ops = new int[MOST_CALLS];
        final int[] as = new int[MOST_CALLS];
        final int[] bs = new int[MOST_CALLS];
        final int[] cs = new int[MOST_CALLS];
        final int[] steps = new int[MOST_CALLS];
        final int[] goneAt = new int[MOST_WORKERS];

        /** The number of the CALL entered; FULL if there is no place for it. */
        int enter(int op, int a, int b, int c, int stepsOfIt) {
            int number = size;
            if (!within(number, 0, MOST_CALLS - 1)) {
                return FULL;
            }
            ops[number] = op;
            as[number] = a;
            bs[number] = b;
            cs[number] = c;
            steps[number] = stepsOfIt;
            size = number + 1;
            return number;
        }
    }

    /** The WORKERS of a RUN, and whose turn it is. */
    private static final class Crew {
        private int seed;
        /** How many are not GONE: the first so many of present, in their order. */
        int left;
        private final int[] present = new int[MOST_WORKERS];
        final int[] holds = new int[MOST_WORKERS];
        private final int[] begins = new int[MOST_WORKERS];

        void gather(int workers, int firstSeed) {
            seed = firstSeed;
            left = Math.min(workers, MOST_WORKERS);
            for (int worker = 0; worker < left; worker++) {
                present[worker] = worker;
                holds[worker] = NONE;
                begins[worker] = 0;
            }
        }

        int nextInTurn() {
            seed = seed * 1103515245 + 12345;
            return left > 0 ? present[(seed >>> 16) % left] : NONE;
        }

        int beginsOnceMore(int worker) {
            begins[worker]++;
            return begins[worker];
        }

        void dismiss(int worker) {
            int stay = 0;
            for (int place = 0; place < left; place++) {
                if (present[place] != worker) {
                    present[stay] = present[place];
                    stay++;
                }
            }
            left = stay;
        }
    }

    /** How each CALL of a RUN fares. */
    private static final class Sheet {
        private static final int OPEN = 0, UNDER_WAY = 1, ENDED = 2, KEPT = 3;
        private static final int WORKED = 1, FAILED = 2;

        private final Book book;
        private final int[] stages = new int[MOST_CALLS];
        private final int[] stepsLeft = new int[MOST_CALLS];
        private final long[] readA = new long[MOST_CALLS];
        private final long[] readB = new long[MOST_CALLS];
        private final boolean[] changesA = new boolean[MOST_CALLS];
        private final boolean[] changesB = new boolean[MOST_CALLS];
        private final long[] givesA = new long[MOST_CALLS];
        private final long[] givesB = new long[MOST_CALLS];
        final int[] outcomes = new int[MOST_CALLS];
        private final int[] timesBegun = new int[MOST_CALLS];
        private final int[] firstBegun = new int[MOST_CALLS];
        private final int[] keptAt = new int[MOST_CALLS];
        private final int[] endedBy = new int[MOST_CALLS];

        Sheet(Book book) {
            this.book = book;
        }

        void openAll() {
            for (int call = 0; call < MOST_CALLS; call++) {
                stages[call] = OPEN;
                outcomes[call] = 0;
                timesBegun[call] = 0;
                firstBegun[call] = NONE;
                keptAt[call] = NONE;
                endedBy[call] = NONE;
            }
        }

        /** The AMOUNT of a KEY as the CALLS before this one, ENDED or KEPT, leave it now. */
        long standing(int call, int key) {
            for (int before = Math.min(call, MOST_CALLS) - 1; before >= 0; before--) {
                if (hasEnded(before)) {
                    if (changesA[before] && book.as[before] == key) {
                        return givesA[before];
                    }
                    if (changesB[before] && book.bs[before] == key) {
                        return givesB[before];
                    }
                }
            }
            return 0;
        }

        private boolean hasEnded(int call) {
            return stages[call] == ENDED || stages[call] == KEPT;
        }

        int leastOpen(int from, int end) {
            for (int call = Math.max(from, 0); call < end && call < MOST_CALLS; call++) {
                if (stages[call] == OPEN) {
                    return call;
                }
            }
            return NONE;
        }

        void noteBegun(int call, int tick) {
            if (timesBegun[call] == 0) {
                firstBegun[call] = tick;
            }
            timesBegun[call]++;
        }

        void setUnderWay(int call) {
            stages[call] = UNDER_WAY;
            stepsLeft[call] = book.steps[call];
            readA[call] = standing(call, book.as[call]);
            readB[call] = standing(call, book.bs[call]);
        }

        /** Does a STEP of a CALL: whether it was the last one. */
        boolean doesLastStep(int call, int worker) {
            stepsLeft[call]--;
            if (stepsLeft[call] > 0) {
                return false;
            }
            work(call);
            stages[call] = ENDED;
            endedBy[call] = worker;
            return true;
        }

        boolean waitsToBeKept(int call) {
            return within(call, 0, MOST_CALLS - 1) && stages[call] == ENDED;
        }

        /** Keeps a CALL if what it read still stands, else opens it again: whether it is KEPT. */
        boolean settle(int call, int tick) {
            boolean stands = readA[call] == standing(call, book.as[call])
                && readB[call] == standing(call, book.bs[call]);
            stages[call] = stands ? KEPT : OPEN;
            if (stands) {
                keptAt[call] = tick;
            }
            return stands;
        }

        private void work(int call) {
            long x = readA[call];
            long y = readB[call];
            long c = book.cs[call];
            outcomes[call] = WORKED;
            changesA[call] = false;
            changesB[call] = false;
            switch (book.ops[call]) {
                case 0: giveB(call, c); break;
                case 1: giveB(call, y + x + c); break;
                case 2: pay(call, x, y, c); break;
                case 3: failUnless(call, x >= c); break;
                case 4: giveA(call, y); giveB(call, x); break;
                default: meet(call, x == y, c); break;
            }
        }

        private void pay(int call, long x, long y, long c) {
            failUnless(call, x >= c && c >= 0);
            if (outcomes[call] == WORKED && book.as[call] != book.bs[call]) {
                giveA(call, x - c);
                giveB(call, y + c);
            }
        }

        private void meet(int call, boolean alike, long c) {
            failUnless(call, alike);
            if (alike) {
                giveB(call, c);
            }
        }

        private void failUnless(int call, boolean works) {
            if (!works) {
                outcomes[call] = FAILED;
            }
        }

        private void giveA(int call, long amount) {
            changesA[call] = true;
            givesA[call] = amount;
        }

        private void giveB(int call, long amount) {
            changesB[call] = true;
            givesB[call] = amount;
        }

        int figure(int call, int what) {
            switch (what) {
                case 0: return timesBegun[call];
                case 1: return firstBegun[call];
                case 2: return keptAt[call];
                default: return endedBy[call];
            }
        }

        int failures(int calls) {
            int failed = 0;
            for (int call = 0; call < calls && call < MOST_CALLS; call++) {
                if (outcomes[call] == FAILED) {
                    failed++;
                }
            }
            return failed;
        }
    }

    /** A RUN: its TICKS, and what is told of them. */
    private static final class Run {
        private final Book book;
        final Sheet sheet;
        private final Crew crew = new Crew();
        int calls;
        int ticks;
        private int room;
        private int kept;
        private int begun;
        private int anew;
        private int dismissed;
        private int underWay;
        private int mostUnderWay;
        private int idle;

        Run(Book book) {
            this.book = book;
            sheet = new Sheet(book);
        }

        /** Goes by TICKS till all CALLS are KEPT; false if the RUN is REFUSED. */
        boolean goesThrough(int callsOfIt, int workers, int seed, int roomOfIt) {
            prepare(callsOfIt, roomOfIt);
            crew.gather(workers, seed);
            for (int tick = 1; tick <= MOST_TICKS && kept < calls && crew.left > 0; tick++) {
                ticks = tick;
                takeTurn(crew.nextInTurn());
                keepWhatStands();
                mostUnderWay = Math.max(mostUnderWay, underWay);
            }
            return kept == calls;
        }

        private void prepare(int callsOfIt, int roomOfIt) {
            calls = callsOfIt;
            room = roomOfIt;
            ticks = 0;
            kept = 0;
            begun = 0;
            anew = 0;
            dismissed = 0;
            underWay = 0;
            mostUnderWay = 0;
            idle = 0;
            sheet.openAll();
        }

        private void takeTurn(int worker) {
            if (!within(worker, 0, MOST_WORKERS - 1)) {
                return;
            }
            int held = crew.holds[worker];
            if (held == NONE) {
                takeCall(worker);
            } else if (within(held, 0, MOST_CALLS - 1) && sheet.doesLastStep(held, worker)) {
                crew.holds[worker] = NONE;
                underWay--;
            }
        }

        private void takeCall(int worker) {
            int call = sheet.leastOpen(kept, Math.min(calls, kept + room));
            if (call == NONE) {
                idle++;
                return;
            }
            begun++;
            sheet.noteBegun(call, ticks);
            if (crew.beginsOnceMore(worker) == book.goneAt[worker]) {
                crew.dismiss(worker);
                dismissed++;
                return;
            }
            crew.holds[worker] = call;
            sheet.setUnderWay(call);
            underWay++;
        }

        private void keepWhatStands() {
            while (kept < calls && sheet.waitsToBeKept(kept)) {
                if (!sheet.settle(kept, ticks)) {
                    anew++;
                    return;
                }
                kept++;
            }
        }

        boolean leavesLike(Run other) {
            if (calls != other.calls) {
                return false;
            }
            for (int key = 0; key <= MOST_KEY; key++) {
                if (sheet.standing(calls, key) != other.sheet.standing(calls, key)) {
                    return false;
                }
            }
            for (int call = 0; call < calls && call < MOST_CALLS; call++) {
                if (sheet.outcomes[call] != other.sheet.outcomes[call]) {
                    return false;
                }
            }
            return true;
        }

        int total(int what) {
            switch (what) {
                case 0: return calls;
                case 1: return ticks;
                case 2: return begun;
                case 3: return anew;
                case 4: return dismissed;
                case 5: return mostUnderWay;
                case 6: return idle;
                default: return sheet.failures(calls);
            }
        }
    }
}
