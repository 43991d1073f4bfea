/** The boundary cases that "Terms" names: each sentence has a test of its own. */
public final class TermsBoundsTest {
    private static final int PUT = 0, ADD = 1, PAY = 2, WANT = 3, TURN = 4, MEET = 5;
    private static final int BAD = -2, STATE = -3, FULL = -4, REFUSED = -5;
    private static final int LOW = Integer.MIN_VALUE, HIGH = Integer.MAX_VALUE;
    private static final int MOST = 1000000;
    private static final int WORKED = 1, FAILED = 2;
    private static final Due due = new Due();

    public static void main(String[] args) {
        keys();
        amountsAtFirst();
        amountsAreLongs();
        amountsAreComparedAsLongs();
        callsAtMost();
        ops();
        numberC();
        steps();
        put();
        add();
        pay();
        payOfOneKey();
        want();
        turn();
        meet();
        failedChangesNothing();
        workedThenFailed();
        failedThenWorked();
        firstOnes();
        workersFromZeroOn();
        eachRunBeginsAnew();
        seedOf32Bits();
        seedAtItsEnds();
        upperBitsAsNumber();
        moduloThoseNotGone();
        leastOpenOne();
        room();
        roomOfAll();
        goneAtItsBegin();
        goneOpensTheCall();
        goneOfNoWorkerOfTheRun();
        readsTheGreatestBefore();
        readsNoneBehindIt();
        readsNoneUnderWay();
        lastStep();
        keptInOneTick();
        whatItReadStandsAgain();
        anewEndsTheTick();
        allGone();
        oneLeft();
        refusedLeavesAll();
        longestRuns();
        badAheadOfFull();
        badAheadOfState();
        wrongCallsChangeNothing();
        due.end();
    }

    private static LedgerShares of(int[]... calls) {
        LedgerShares x = new LedgerShares();
        for (int[] c : calls) {
            x.call(c[0], c[1], c[2], c[3], c[4]);
        }
        return x;
    }

    private static LedgerShares full(int steps) {
        LedgerShares x = new LedgerShares();
        for (int number = 0; number < 40; number++) {
            x.call(ADD, number % 8, (number + 1) % 8, number, steps);
        }
        return x;
    }

    private static void keys() {
        due.about("KEYS 0 to 7");
        for (int key = 0; key <= 7; key++) {
            LedgerShares x = of(new int[] {PUT, key, key, 10 + key, 1}, new int[] {TURN, key, 7 - key, 0, 1});
            due.is("two calls", x.run(2, 1, 1, 1), 4);
            for (int other = 0; other <= 7; other++) {
                due.is("key " + other + " behind a put to " + key, x.behind(1, other), other == key ? 10 + key : 0);
                due.is("key " + other + " behind a turn of " + key, x.amount(other), other == 7 - key ? 10 + key : 0);
            }
        }
        LedgerShares x = new LedgerShares();
        for (int key : new int[] {-1, 8, 9, LOW, HIGH}) {
            due.is("a is " + key, x.call(PUT, key, 0, 0, 1), BAD);
            due.is("b is " + key, x.call(PUT, 0, key, 0, 1), BAD);
        }
        due.is("none was taken", x.count(0), 0);
    }

    private static void amountsAtFirst() {
        due.about("AMOUNTS (.. 0 at first)");
        LedgerShares x = of(new int[] {MEET, 6, 7, 3, 1}, new int[] {WANT, 5, 5, 1, 1});
        x.run(2, 1, 1, 1);
        due.is("all keys are alike at first", x.outcome(0), WORKED);
        due.is("none is 1 at first", x.outcome(1), FAILED);
        for (int key = 0; key <= 7; key++) {
            due.is("key " + key + " ahead of all", x.behind(0, key), 0);
        }
    }

    private static void amountsAreLongs() {
        due.about("AMOUNTS (longs ..)");
        for (int sign = -1; sign <= 1; sign += 2) {
            LedgerShares x = new LedgerShares();
            for (int number = 0; number < 40; number++) {
                x.call(ADD, 7, 7, sign * MOST, 1);
            }
            x.run(40, 3, 1, 40);
            due.is("the farthest that calls can bring it", x.amount(7), sign * MOST * ((1L << 40) - 1));
            due.is("just within 32 bits", x.behind(11, 7), sign * 2047L * MOST);
            due.is("just beyond 32 bits", x.behind(12, 7), sign * 4095L * MOST);
        }
        LedgerShares x = of(new int[] {PUT, 0, 0, 1, 1});
        for (int number = 1; number <= 32; number++) {
            x.call(ADD, 0, 0, 0, 1);
        }
        x.call(MEET, 0, 1, 9, 1);
        x.call(WANT, 0, 1, MOST, 1);
        x.call(PAY, 0, 1, MOST, 1);
        x.call(TURN, 0, 2, 0, 1);
        x.run(37, 2, 1, 40);
        due.is("2 to the 32", x.behind(33, 0), 1L << 32);
        due.is("it is not 0", x.outcome(33), FAILED);
        due.is("it is not below c", x.outcome(34), WORKED);
        due.is("it pays", x.outcome(35), WORKED);
        due.is("it is turned whole", x.amount(2), (1L << 32) - MOST);
    }

    private static void amountsAreComparedAsLongs() {
        due.about("AMOUNTS (longs ..), what it read is what they are now");
        // CALL 0 is slow: CALLS 1 to 33 all read 0, and each is ANEW; for the last one, whose
        // KEY is 2 to the 32 then, only the upper half of the long tells that.
        LedgerShares x = of(new int[] {PUT, 0, 0, 1, 9});
        for (int number = 1; number <= 32; number++) {
            x.call(ADD, 0, 0, 0, 1);
        }
        x.call(ADD, 0, 1, 0, 1);
        x.run(34, 16, 3, 40);
        due.is("the last one is begun while call 0 is under way", x.of(33, 1) < x.of(0, 2), true);
        due.is("anew", x.told(3), 33);
        due.is("key 1", x.amount(1), 1L << 32);
    }

    private static void callsAtMost() {
        due.about("CALLS 0, 1, .. (40 at most)");
        LedgerShares x = new LedgerShares();
        for (int number = 0; number < 40; number++) {
            due.is("its number", x.call(PUT, 0, 0, number, 1), number);
        }
        due.is("the 41st", x.call(PUT, 0, 0, 40, 1), FULL);
        due.is("the 42nd", x.call(PUT, 0, 0, 41, 1), FULL);
        due.is("how many", x.count(0), 40);
        due.is("all of them", x.run(40, 1, 1, 40), 80);
        due.is("the last one is the 40th", x.amount(0), 39);
        due.is("one more than all", x.run(41, 1, 1, 40), BAD);
        x.clear();
        due.is("the first one again", x.call(PUT, 0, 0, 0, 1), 0);
    }

    private static void ops() {
        due.about("an OP (0 to 5)");
        LedgerShares x = new LedgerShares();
        for (int op = 0; op <= 5; op++) {
            due.is("op " + op, x.call(op, 0, 0, 0, 1), op);
        }
        for (int op : new int[] {-1, 6, LOW, HIGH}) {
            due.is("op " + op, x.call(op, 0, 0, 0, 1), BAD);
        }
        due.is("how many", x.count(0), 6);
    }

    private static void numberC() {
        due.about("a number c (-1000000 to 1000000)");
        LedgerShares x = new LedgerShares();
        due.is("the least", x.call(PUT, 0, 0, -MOST, 1), 0);
        due.is("the most", x.call(PUT, 0, 1, MOST, 1), 1);
        for (int c : new int[] {-MOST - 1, MOST + 1, LOW, HIGH}) {
            for (int op = 0; op <= 5; op++) {
                due.is("op " + op + ", c " + c, x.call(op, 0, 0, c, 1), BAD);
            }
        }
        x.run(2, 1, 1, 1);
        due.is("the least stands", x.amount(0), -MOST);
        due.is("the most stands", x.amount(1), MOST);
        due.is("how many", x.count(0), 2);
    }

    private static void steps() {
        due.about("STEPS (1 to 9)");
        for (int steps = 1; steps <= 9; steps++) {
            LedgerShares x = new LedgerShares();
            due.is(steps + " steps", x.call(PUT, 0, 0, 1, steps), 0);
            due.is(steps + " steps and the begin", x.run(1, 1, 1, 1), steps + 1);
        }
        LedgerShares x = new LedgerShares();
        for (int steps : new int[] {0, -1, 10, LOW, HIGH}) {
            due.is(steps + " steps", x.call(PUT, 0, 0, 1, steps), BAD);
        }
        due.is("how many", x.count(0), 0);
    }

    /** An OP on KEYS 0 and 1, whose AMOUNTS are x and y. */
    private static void op(int op, int x, int y, int c, int outcome, long left0, long left1) {
        LedgerShares l = of(new int[] {PUT, 0, 0, x, 1}, new int[] {PUT, 1, 1, y, 1}, new int[] {op, 0, 1, c, 1});
        l.run(3, 1, 1, 1);
        String what = "x " + x + ", y " + y + ", c " + c;
        due.is(what + ": outcome", l.outcome(2), outcome);
        due.is(what + ": a", l.amount(0), left0);
        due.is(what + ": b", l.amount(1), left1);
    }

    /** An OP whose a and b are one KEY, with the AMOUNT x. */
    private static void opOfOne(int op, int x, int c, int outcome, long left) {
        LedgerShares l = of(new int[] {PUT, 3, 3, x, 1}, new int[] {op, 3, 3, c, 1});
        l.run(2, 1, 1, 1);
        String what = "one key, x " + x + ", c " + c;
        due.is(what + ": outcome", l.outcome(1), outcome);
        due.is(what + ": amount", l.amount(3), left);
    }

    private static void put() {
        due.about("0 PUT: b becomes c");
        op(PUT, 4, 5, 6, WORKED, 4, 6);
        op(PUT, 4, 5, -MOST, WORKED, 4, -MOST);
        op(PUT, 4, 5, MOST, WORKED, 4, MOST);
        op(PUT, 4, 5, 0, WORKED, 4, 0);
        opOfOne(PUT, 4, 6, WORKED, 6);
    }

    private static void add() {
        due.about("1 ADD: b becomes y + x + c");
        op(ADD, 4, 50, 600, WORKED, 4, 654);
        op(ADD, -4, -50, -600, WORKED, -4, -654);
        op(ADD, MOST, MOST, MOST, WORKED, MOST, 3 * MOST);
        op(ADD, 4, 50, -54, WORKED, 4, 0);
        opOfOne(ADD, 4, 6, WORKED, 14);
    }

    private static void pay() {
        due.about("2 PAY: if x is c or more, and c is not below 0");
        op(PAY, 10, 3, 9, WORKED, 1, 12);
        op(PAY, 10, 3, 10, WORKED, 0, 13);
        op(PAY, 10, 3, 11, FAILED, 10, 3);
        op(PAY, 10, 3, 0, WORKED, 10, 3);
        op(PAY, 10, 3, -1, FAILED, 10, 3);
        op(PAY, 0, 3, 0, WORKED, 0, 3);
        op(PAY, -1, 3, 0, FAILED, -1, 3);
        op(PAY, -1, 3, -1, FAILED, -1, 3);
        op(PAY, MOST, -MOST, MOST, WORKED, 0, 0);
        op(PAY, MOST - 1, 3, MOST, FAILED, MOST - 1, 3);
        op(PAY, MOST, 3, -MOST, FAILED, MOST, 3);
    }

    private static void payOfOneKey() {
        due.about("2 PAY: (with a and b one KEY nothing changes)");
        opOfOne(PAY, 10, 9, WORKED, 10);
        opOfOne(PAY, 10, 10, WORKED, 10);
        opOfOne(PAY, 10, 0, WORKED, 10);
        opOfOne(PAY, 10, 11, FAILED, 10);
        opOfOne(PAY, 10, -1, FAILED, 10);
    }

    private static void want() {
        due.about("3 WANT: if x is below c, it FAILS; else nothing changes");
        op(WANT, 10, 3, 9, WORKED, 10, 3);
        op(WANT, 10, 3, 10, WORKED, 10, 3);
        op(WANT, 10, 3, 11, FAILED, 10, 3);
        op(WANT, 3, 10, 10, FAILED, 3, 10);
        op(WANT, -MOST, 3, -MOST, WORKED, -MOST, 3);
        op(WANT, -MOST, 3, -MOST + 1, FAILED, -MOST, 3);
        op(WANT, MOST, 3, MOST, WORKED, MOST, 3);
        op(WANT, MOST - 1, 3, MOST, FAILED, MOST - 1, 3);
        opOfOne(WANT, 10, 10, WORKED, 10);
        opOfOne(WANT, 10, 11, FAILED, 10);
    }

    private static void turn() {
        due.about("4 TURN: a becomes y, b becomes x");
        op(TURN, 4, 5, 6, WORKED, 5, 4);
        op(TURN, -MOST, MOST, 0, WORKED, MOST, -MOST);
        op(TURN, 4, 4, 6, WORKED, 4, 4);
        opOfOne(TURN, 4, 6, WORKED, 4);
    }

    private static void meet() {
        due.about("5 MEET: if x is y, b becomes c; else it FAILS");
        op(MEET, 4, 4, 6, WORKED, 4, 6);
        op(MEET, 0, 0, -MOST, WORKED, 0, -MOST);
        op(MEET, 4, 5, 6, FAILED, 4, 5);
        op(MEET, 5, 4, 6, FAILED, 5, 4);
        op(MEET, 4, -4, 6, FAILED, 4, -4);
        opOfOne(MEET, 4, 6, WORKED, 6);
    }

    private static void failedChangesNothing() {
        due.about("2 it FAILED: then it changes no AMOUNT");
        // WORKER 1 ends CALLS 1, 2 and 3 while CALL 0 is UNDER WAY: CALL 3 reads past CALL 2, which FAILED.
        for (int[] fails : new int[][] {{PAY, 0, 1, 6, 1}, {PAY, 0, 1, -1, 1}, {WANT, 0, 1, 6, 1}, {MEET, 0, 1, 9, 1}}) {
            LedgerShares x = of(new int[] {WANT, 7, 7, 0, 1}, new int[] {PUT, 0, 0, 5, 1}, fails, new int[] {ADD, 0, 1, 1, 1});
            due.is("ticks", x.run(4, 2, Turns.seed(2, 0, 1, 1, 1, 1, 1, 1, 0), 40), 8);
            due.is("it failed", x.outcome(2), FAILED);
            due.is("key 0", x.amount(0), 5);
            due.is("key 1", x.amount(1), 6);
            due.told("one of four failed", x, 4, 8, 4, 0, 0, 2, 0, 1);
        }
    }

    private static void workedThenFailed() {
        due.about("OPEN again (it changed nothing): WORKED ahead, then FAILED");
        int seed = Turns.seed(2, 0, 1, 1, 0, 1, 1);
        // Read ahead, KEY 0 is 0: CALL 1 is WORKED; with what CALL 0 put it FAILS.
        LedgerShares x = of(new int[] {PUT, 0, 0, 5, 1}, new int[] {MEET, 0, 1, 9, 1});
        due.is("meet", x.run(2, 2, seed, 40), 6);
        due.is("meet fails", x.outcome(1), FAILED);
        due.is("meet, b", x.amount(1), 0);
        due.told("meet", x, 2, 6, 3, 1, 0, 2, 0, 1);
        LedgerShares y = of(new int[] {PUT, 0, 0, -1, 1}, new int[] {PAY, 0, 1, 0, 1});
        due.is("pay", y.run(2, 2, seed, 40), 6);
        due.is("pay fails", y.outcome(1), FAILED);
        due.is("pay, a", y.amount(0), -1);
        due.told("pay", y, 2, 6, 3, 1, 0, 2, 0, 1);
    }

    private static void failedThenWorked() {
        due.about("OPEN again (it changed nothing): FAILED ahead, then WORKED");
        int seed = Turns.seed(2, 0, 1, 1, 0, 1, 1);
        LedgerShares x = of(new int[] {PUT, 0, 0, 5, 1}, new int[] {PAY, 0, 1, 5, 1});
        due.is("pay", x.run(2, 2, seed, 40), 6);
        due.is("pay is worked", x.outcome(1), WORKED);
        due.is("pay, a", x.amount(0), 0);
        due.is("pay, b", x.amount(1), 5);
        due.told("none failed", x, 2, 6, 3, 1, 0, 2, 0, 0);
    }

    private static void firstOnes() {
        due.about("A RUN of so many CALLS (the first ones)");
        LedgerShares x = of(new int[] {PUT, 0, 0, 1, 1}, new int[] {PUT, 0, 0, 2, 1}, new int[] {PUT, 0, 0, 3, 1});
        for (int calls = 0; calls <= 3; calls++) {
            due.is(calls + " calls", x.run(calls, 1, 1, 40), 2 * calls);
            due.is("key 0 of " + calls, x.amount(0), calls);
            for (int call = 0; call < 3; call++) {
                due.is("outcome(" + call + ") of " + calls, x.outcome(call), call < calls ? WORKED : 0);
            }
        }
    }

    private static void workersFromZeroOn() {
        due.about("so many WORKERS (numbered from 0 on)");
        for (int workers = 1; workers <= 16; workers++) {
            LedgerShares x = of(new int[] {PUT, 0, 0, 1, 1});
            x.run(1, workers, Turns.seed(workers, 0), 40);
            due.is("the first of " + workers, x.of(0, 3), 0);
            x.run(1, workers, Turns.seed(workers, workers - 1), 40);
            due.is("the last of " + workers, x.of(0, 3), workers - 1);
        }
    }

    private static void eachRunBeginsAnew() {
        due.about("all these CALLS are OPEN, all AMOUNTS 0");
        LedgerShares x = of(new int[] {ADD, 0, 0, 5, 2}, new int[] {ADD, 0, 1, 1, 1});
        LedgerShares y = of(new int[] {ADD, 0, 0, 5, 2}, new int[] {ADD, 0, 1, 1, 1});
        x.run(2, 3, 8, 1);
        x.run(2, 2, 19, 40);
        y.run(1, 1, 1, 1);
        y.run(2, 2, 19, 40);
        due.is("key 0", x.amount(0), 5);
        due.is("key 1", x.amount(1), 6);
        due.told("as the first one", x, 2, 8, 3, 1, 0, 2, 1, 0);
        due.alike("whatever ran before", x, y);
    }

    private static void seedOf32Bits() {
        due.about("the SEED becomes SEED times 1103515245 plus 12345 (32 bits)");
        for (int seed : new int[] {LOW, LOW + 1, -12345, -1, 0, 1, 12345, HIGH - 1, HIGH}) {
            for (int workers = 1; workers <= 16; workers++) {
                LedgerShares x = of(new int[] {PUT, 0, 0, 1, 9});
                int[] drawn = Turns.drawn(seed, workers, 2000);
                int tick = 1;
                for (int done = 0; done < 9; tick++) {
                    done += drawn[tick] == drawn[0] ? 1 : 0;
                }
                due.is("seed " + seed + ", " + workers + " workers", x.run(1, workers, seed, 40), tick);
                due.of("seed " + seed + ", " + workers + " workers", x, 0, 1, 1, tick, drawn[0]);
                due.is("idle", x.told(6), tick - 10);
            }
        }
    }

    private static void seedAtItsEnds() {
        due.about("the SEED: the least, the most, -1 and 0");
        int[][] first = {{LOW, 16, 0}, {LOW, 7, 1}, {HIGH, 16, 9}, {HIGH, 7, 4}, {-1, 16, 9}, {-1, 7, 5}, {0, 16, 0}};
        for (int[] f : first) {
            LedgerShares x = of(new int[] {PUT, 0, 0, 1, 1});
            x.run(1, f[1], f[0], 40);
            due.is("seed " + f[0] + ", " + f[1] + " workers: the first turn", x.of(0, 3), f[2]);
        }
    }

    private static void upperBitsAsNumber() {
        due.about("its upper 16 bits as a number");
        long[] seeds = {0x00000000L, 0x0000ffffL, 0x00010000L, 0x7fffffffL, 0x80000000L, 0xfffeffffL, 0xffff0000L, 0xffffffffL};
        int[] upper = {0, 0, 1, 32767, 32768, 65534, 65535, 65535};
        for (int each = 0; each < seeds.length; each++) {
            for (int workers = 1; workers <= 16; workers++) {
                LedgerShares x = of(new int[] {PUT, 0, 0, 1, 1});
                x.run(1, workers, Turns.before(seeds[each]), 40);
                due.is("seed becomes " + seeds[each] + ", " + workers + " workers", x.of(0, 3), upper[each] % workers);
            }
        }
    }

    private static void moduloThoseNotGone() {
        due.about("modulo how many WORKERS are not GONE, tells which of these (in their order)");
        // WORKER 1 is GONE at TICK 1: the places 0 and 1 are then those of WORKERS 0 and 2.
        LedgerShares x = of(new int[] {PUT, 0, 0, 1, 1});
        x.gone(1, 1);
        due.is("1 of 3 gone", x.run(1, 3, Turns.seed("1/3 1/2 0/2 1/2"), 40), 4);
        due.of("1 of 3 gone", x, 0, 2, 1, 4, 2);
        due.told("1 of 3 gone", x, 1, 4, 2, 0, 1, 1, 1, 0);
        x.gone(0, 1);
        due.is("1 and 0 of 3 gone", x.run(1, 3, Turns.seed("1/3 0/2 0/1 0/1"), 40), 4);
        due.of("1 and 0 of 3 gone", x, 0, 3, 1, 4, 2);
        x.gone(1, 0);
        x.gone(2, 1);
        due.is("2 and 0 of 3 gone", x.run(1, 3, Turns.seed("2/3 0/2 0/1 0/1"), 40), 4);
        due.of("2 and 0 of 3 gone", x, 0, 3, 1, 4, 1);
    }

    private static void leastOpenOne() {
        due.about("takes the least one that is OPEN .. (without one it does nothing)");
        LedgerShares x = of(new int[] {PUT, 0, 0, 1, 3}, new int[] {PUT, 1, 1, 1, 1}, new int[] {PUT, 2, 2, 1, 1});
        // 0 takes CALL 0, 1 takes and ends CALLS 1 and 2, then does nothing twice, while 0 does its STEPS.
        due.is("ticks", x.run(3, 2, Turns.seed(2, 0, 1, 1, 1, 1, 1, 0, 1, 0, 0), 40), 10);
        due.of("the first", x, 0, 1, 1, 10, 0);
        due.of("the second", x, 1, 1, 2, 10, 1);
        due.of("the third", x, 2, 1, 4, 10, 1);
        due.told("nothing twice", x, 3, 10, 3, 0, 0, 2, 2, 0);
    }

    private static void room() {
        due.about("less than the first one that is not KEPT plus ROOM");
        LedgerShares x = of(new int[] {PUT, 0, 0, 1, 1}, new int[] {PUT, 1, 1, 1, 1}, new int[] {PUT, 2, 2, 1, 1});
        int seed = Turns.seed(2, 0, 1, 1, 1, 0, 1, 1, 1, 1);
        // A ROOM of 1: 1 does nothing at 2, 3, 4. A ROOM of 2: it takes CALL 1, and does nothing at 4.
        due.is("a room of 1", x.run(3, 2, seed, 1), 9);
        due.told("a room of 1", x, 3, 9, 3, 0, 0, 1, 3, 0);
        due.is("a room of 2", x.run(3, 2, seed, 2), 7);
        due.told("a room of 2", x, 3, 7, 3, 0, 0, 2, 1, 0);
        due.is("a room of 3", x.run(3, 2, seed, 3), 6);
        due.told("a room of 3", x, 3, 6, 3, 0, 0, 2, 0, 0);
        due.is("a room of 40", x.run(3, 2, seed, 40), 6);
        due.is("a room of 0", x.run(3, 2, seed, 0), BAD);
        due.is("a room of 41", x.run(3, 2, seed, 41), BAD);
        due.is("as the last one left it", x.told(1), 6);
    }

    private static void roomOfAll() {
        due.about("plus ROOM, with 40 CALLS");
        LedgerShares x = of(new int[] {PUT, 0, 0, 1, 9});
        for (int number = 1; number < 40; number++) {
            x.call(PUT, 1, 1, number, 1);
        }
        x.run(40, 16, 3, 40);
        due.is("a room of 40: the last one is begun ahead of the first one's end", x.of(39, 1) < x.of(0, 2), true);
        x.run(40, 16, 3, 39);
        due.is("a room of 39: the last but one is", x.of(38, 1) < x.of(0, 2), true);
        due.is("a room of 39: the last one is not", x.of(39, 1) > x.of(0, 2), true);
    }

    private static void goneAtItsBegin() {
        due.about("the WORKER's BEGIN number at which it is told to be GONE");
        LedgerShares x = full(1);
        for (int n : new int[] {1, 2, 39, 40}) {
            x.gone(0, n);
            due.is("alone, gone at " + n + " of as many", x.run(n, 1, 1, 40), REFUSED);
            due.is("alone, gone at " + n + " of one less", x.run(n - 1, 1, 1, 40), 2 * (n - 1));
            due.is("none gone", x.told(4), 0);
        }
        for (int n : new int[] {41, 99, 0}) {
            x.gone(0, n);
            due.is("alone, gone at " + n + " of 40", x.run(40, 1, 1, 40), 80);
        }
        // The BEGIN that is one ANEW is a BEGIN more: 1 takes CALL 1 at 2 and, ANEW, at 6.
        LedgerShares y = of(new int[] {PUT, 0, 0, 5, 2}, new int[] {ADD, 0, 1, 1, 1});
        int seed = Turns.seed(2, 0, 1, 1, 0, 0, 1, 0, 1);
        y.gone(1, 2);
        due.is("gone at the second begin", y.run(2, 2, seed, 40), 8);
        due.told("gone at the second begin", y, 2, 8, 4, 1, 1, 2, 0, 0);
        y.gone(1, 3);
        due.is("no third begin", y.run(2, 2, seed, 40), 8);
        due.told("no third begin", y, 2, 8, 3, 1, 0, 2, 1, 0);
    }

    private static void goneOpensTheCall() {
        due.about("it is GONE now and the CALL OPEN again");
        LedgerShares x = of(new int[] {PUT, 0, 0, 5, 2}, new int[] {PUT, 1, 1, 6, 1});
        x.gone(0, 1);
        // 0 takes CALL 0 and is GONE; the next one takes the same CALL, not CALL 1.
        due.is("ticks", x.run(2, 3, Turns.seed("0/3 1/2 0/2 1/2 1/2 0/2"), 40), 6);
        due.of("the call", x, 0, 2, 1, 5, 2);
        due.of("the next one", x, 1, 1, 3, 6, 1);
        due.told("one gone", x, 2, 6, 3, 0, 1, 2, 0, 0);
    }

    private static void goneOfNoWorkerOfTheRun() {
        due.about("a WORKER told to be GONE that the RUN has not");
        LedgerShares x = of(new int[] {PUT, 0, 0, 5, 1});
        for (int worker = 1; worker < 16; worker++) {
            x.gone(worker, 1);
        }
        due.is("alone", x.run(1, 1, 1, 40), 2);
        due.is("none gone", x.told(4), 0);
    }

    private static void readsTheGreatestBefore() {
        due.about("reads .. that which the greatest CALL before it that has ENDED .. gave it");
        LedgerShares x = of(new int[] {WANT, 0, 0, 0, 1}, new int[] {PUT, 1, 1, 7, 1}, new int[] {PUT, 1, 1, 8, 1},
            new int[] {PAY, 1, 1, 8, 1}, new int[] {ADD, 1, 2, 0, 1});
        // All of CALLS 1 to 4 are ENDED, none KEPT, when 0 ends CALL 0; the PAY to one KEY changed nothing.
        due.is("ticks", x.run(5, 2, Turns.seed(2, 0, 1, 1, 1, 1, 1, 1, 1, 1, 0), 40), 10);
        due.told("none anew", x, 5, 10, 5, 0, 0, 2, 0, 0);
        due.is("key 2", x.amount(2), 8);
    }

    private static void readsNoneBehindIt() {
        due.about("reads .. CALL before it ..; 0 if there is none");
        LedgerShares x = of(new int[] {PUT, 0, 0, 5, 2}, new int[] {ADD, 0, 1, 1, 1}, new int[] {PUT, 1, 1, 9, 1});
        // 1 ends CALLS 1 and 2; at 7 CALL 1 is ANEW. At 8 it reads KEY 1: 0, not what CALL 2 gave.
        // At 9 it is KEPT, and CALL 2, that read 1 there at 4, is ANEW.
        due.is("ticks", x.run(3, 2, Turns.seed(2, 0, 1, 1, 1, 1, 0, 0, 1, 1, 1, 1), 40), 11);
        due.told("two anew", x, 3, 11, 5, 2, 0, 2, 0, 0);
        due.is("key 1 behind call 1", x.behind(2, 1), 6);
        due.is("key 1 behind all", x.amount(1), 9);
        due.of("call 1", x, 1, 2, 2, 9, 1);
        due.of("call 2", x, 2, 2, 4, 11, 1);
    }

    private static void readsNoneUnderWay() {
        due.about("reads .. a CALL that has ENDED, or is KEPT (not one UNDER WAY)");
        LedgerShares x = of(new int[] {PUT, 0, 0, 5, 1}, new int[] {ADD, 0, 1, 1, 1});
        due.is("under way", x.run(2, 2, Turns.seed(2, 0, 1, 0, 1, 1, 1), 40), 6);
        due.told("under way: anew", x, 2, 6, 3, 1, 0, 2, 0, 0);
        due.is("kept", x.run(2, 2, Turns.seed(2, 0, 0, 1, 1), 40), 4);
        due.told("kept: none anew", x, 2, 4, 2, 0, 0, 1, 0, 0);
    }

    private static void lastStep() {
        due.about("with the last one the CALL has ENDED .. the WORKER has none");
        LedgerShares x = of(new int[] {PUT, 0, 0, 5, 9}, new int[] {ADD, 0, 1, 1, 1}, new int[] {PUT, 2, 2, 5, 1});
        // At 10 CALL 0 is ended, at 11 the same WORKER takes CALL 1, which reads what it gave.
        due.is("alone", x.run(3, 1, 1, 40), 14);
        due.of("9 steps", x, 0, 1, 1, 10, 0);
        due.of("1 step", x, 1, 1, 11, 12, 0);
        due.of("1 step", x, 2, 1, 13, 14, 0);
        due.told("one at a time", x, 3, 14, 3, 0, 0, 1, 0, 0);
    }

    private static void keptInOneTick() {
        due.about("as long as the first CALL that is not KEPT has ENDED .. it is KEPT");
        LedgerShares x = of(new int[] {PUT, 0, 0, 1, 1}, new int[] {PUT, 1, 1, 1, 1}, new int[] {PUT, 2, 2, 1, 2},
            new int[] {PUT, 3, 3, 1, 1});
        // At 7 CALLS 0 and 1 are KEPT; CALL 2 is UNDER WAY, so CALL 3, that has ENDED, waits till 9.
        due.is("ticks", x.run(4, 3, Turns.seed(3, 0, 1, 1, 1, 2, 2, 0, 1, 1), 40), 9);
        int[] kept = {7, 7, 9, 9};
        for (int call = 0; call < 4; call++) {
            due.is("call " + call + " is kept at", x.of(call, 2), kept[call]);
        }
        due.told("none anew", x, 4, 9, 4, 0, 0, 3, 0, 0);
    }

    private static void whatItReadStandsAgain() {
        due.about("if what it read is what AMOUNTS are now .. it is KEPT");
        // CALL 2 read KEY 0 as 0; CALLS 0 and 1 bring it to 5 and to 0 again.
        LedgerShares x = of(new int[] {PUT, 0, 0, 5, 2}, new int[] {PUT, 0, 0, 0, 2}, new int[] {ADD, 0, 1, 1, 1});
        due.is("ticks", x.run(3, 3, Turns.seed(3, 0, 1, 2, 2, 0, 0, 1, 1, 1, 1, 1), 40), 11);
        due.told("only call 1 is anew", x, 3, 11, 4, 1, 0, 3, 0, 0);
        due.of("call 2", x, 2, 1, 3, 11, 2);
        // What it read of b counts as well as what it read of a, though a PUT gives none of it.
        for (int[] reads : new int[][] {{PUT, 0, 1, 6, 1}, {PUT, 1, 0, 6, 1}, {WANT, 1, 0, 0, 1}}) {
            LedgerShares y = of(new int[] {PUT, 0, 0, 5, 1}, reads);
            due.is("ticks", y.run(2, 2, Turns.seed(2, 0, 1, 1, 0, 1, 1), 40), 6);
            due.is("anew", y.told(3), 1);
        }
        LedgerShares z = of(new int[] {PUT, 0, 0, 5, 1}, new int[] {ADD, 1, 2, 6, 1});
        due.is("other keys", z.run(2, 2, Turns.seed(2, 0, 1, 1, 0, 1, 1), 40), 4);
        due.is("none anew", z.told(3), 0);
    }

    private static void anewEndsTheTick() {
        due.about("else it is OPEN again (it changed nothing), ANEW is one more, and the TICK is over");
        LedgerShares x = of(new int[] {PUT, 0, 0, 5, 1}, new int[] {ADD, 0, 1, 1, 1}, new int[] {PUT, 2, 2, 1, 1},
            new int[] {ADD, 1, 3, 0, 1});
        // At 6 CALL 0 is KEPT, CALL 1 ANEW, and CALL 2, ENDED, waits till CALL 1 is KEPT at 9. CALL 3
        // reads KEY 1 at 8 as 0, for CALL 1, OPEN and begun anew, changed nothing: ANEW at 11.
        due.is("ticks", x.run(4, 3, Turns.seed(3, 0, 1, 1, 1, 1, 0, 0, 1, 0, 2, 1, 1, 1), 40), 13);
        due.of("call 1", x, 1, 2, 2, 9, 0);
        due.of("call 2", x, 2, 1, 4, 9, 1);
        due.of("call 3", x, 3, 2, 8, 13, 1);
        due.told("two anew", x, 4, 13, 6, 2, 0, 2, 1, 0);
        due.is("key 3", x.amount(3), 6);
    }

    private static void allGone() {
        due.about("If all WORKERS are GONE, the RUN is REFUSED");
        for (int workers = 1; workers <= 16; workers++) {
            LedgerShares x = of(new int[] {PUT, 0, 0, 5, 1});
            for (int worker = 0; worker < 16; worker++) {
                x.gone(worker, 1);
            }
            for (int seed : new int[] {LOW, -1, 0, 1, HIGH}) {
                due.is(workers + " workers, seed " + seed, x.run(1, workers, seed, 40), REFUSED);
                due.is("no calls, none is begun", x.run(0, workers, seed, 40), 0);
            }
            due.is("how many were refused", x.count(2), 5);
        }
    }

    private static void oneLeft() {
        due.about("If all WORKERS are GONE (and not if one is left)");
        LedgerShares x = of(new int[] {PUT, 0, 0, 5, 1}, new int[] {PUT, 0, 0, 6, 1});
        x.gone(0, 1);
        x.gone(2, 1);
        due.is("one left", x.run(2, 3, Turns.seed("2/3 0/2 0/1 0/1 0/1 0/1"), 40), 6);
        due.told("one left", x, 2, 6, 4, 0, 2, 1, 0, 0);
        x.gone(1, 3);
        due.is("gone at one begin too many", x.run(2, 3, Turns.seed("2/3 0/2 0/1 0/1 0/1 0/1"), 40), 6);
        x.gone(1, 2);
        due.is("none left", x.run(2, 3, Turns.seed("2/3 0/2 0/1 0/1 0/1"), 40), REFUSED);
        // 1 ends CALL 0, takes CALL 2 and is GONE; 0 does the 9 STEPS of CALL 1 alone, then takes CALL 2.
        LedgerShares y = of(new int[] {PUT, 0, 0, 5, 1}, new int[] {PUT, 1, 1, 6, 9}, new int[] {PUT, 2, 2, 6, 1});
        int seed = Turns.seed("1/2 0/2 1/2 1/2");
        y.gone(1, 2);
        due.is("one is left with a call", y.run(3, 2, seed, 40), 15);
        due.told("one is left with a call", y, 3, 15, 4, 0, 1, 2, 0, 0);
        y.gone(0, 2);
        due.is("the one left is gone at its next begin", y.run(3, 2, seed, 40), REFUSED);
        due.is("without a next begin it ends what it has", y.run(2, 2, Turns.seed(2, 1, 0, 1, 0, 0, 0, 0, 0, 0, 0, 0, 0), 40), 12);
    }

    private static LedgerShares ranOnce() {
        LedgerShares x = of(new int[] {PUT, 0, 0, 5, 2}, new int[] {ADD, 0, 1, 1, 1});
        x.run(2, 2, 19, 40);
        x.call(PUT, 0, 1, 77, 1);
        x.gone(0, 2);
        x.gone(1, 2);
        return x;
    }

    private static void refusedLeavesAll() {
        due.about("REFUSED .. Then all is as it was ahead of it");
        LedgerShares x = ranOnce();
        due.is("refused", x.run(3, 2, 19, 40), REFUSED);
        due.is("refused is counted", x.count(2), 1);
        due.is("done is not", x.count(1), 1);
        due.told("as it was", x, 2, 8, 3, 1, 0, 2, 1, 0);
        due.of("as it was", x, 0, 1, 1, 5, 0);
        due.of("as it was", x, 1, 2, 2, 8, 1);
        due.of("as it was", x, 2, -1, -1, -1, -1);
        due.is("outcome as it was", x.outcome(2), 0);
        due.is("key 0 as it was", x.amount(0), 5);
        due.is("key 1 as it was", x.amount(1), 6);
        due.is("behind as it was", x.behind(1, 1), 0);
        due.is("behind as it was", x.behind(3, 1), BAD);
        due.is("told to be gone as it was", x.gone(0, 0), 2);
        due.is("told to be gone as it was", x.gone(1, 0), 2);
        // One that goes through behind it, and one in an object that refused another, are alike.
        LedgerShares y = ranOnce();
        y.run(3, 1, 4, 1);
        y.gone(0, 0);
        y.gone(1, 0);
        due.is("goes through", x.run(3, 4, 5, 40), y.run(3, 4, 5, 40));
        due.alike("behind it", x, y);
    }

    private static void longestRuns() {
        due.about("if a 30001st TICK would come (long RUNS of 40 CALLS go through)");
        LedgerShares x = full(9);
        for (int seed = 0; seed < 40; seed++) {
            int workers = 1 + seed % 16;
            int ticks = x.run(40, workers, seed * 1000003, 1 + seed);
            due.is("goes through with " + workers + ": " + ticks, ticks >= 400 && ticks <= 30000, true);
        }
        due.is("none refused", x.count(2), 0);
    }

    private static void badAheadOfFull() {
        due.about("the first of these that fits: BAD .., FULL");
        LedgerShares x = full(1);
        due.is("full", x.call(PUT, 0, 0, 0, 1), FULL);
        int[][] wrong = {{-1, 0, 0, 0, 1}, {6, 0, 0, 0, 1}, {0, -1, 0, 0, 1}, {0, 8, 0, 0, 1}, {0, 0, -1, 0, 1},
            {0, 0, 8, 0, 1}, {0, 0, 0, -MOST - 1, 1}, {0, 0, 0, MOST + 1, 1}, {0, 0, 0, 0, 0}, {0, 0, 0, 0, 10}};
        for (int[] w : wrong) {
            due.is("wrong, and full", x.call(w[0], w[1], w[2], w[3], w[4]), BAD);
        }
    }

    private static void badAheadOfState() {
        due.about("the first of these that fits: BAD .., STATE");
        LedgerShares x = new LedgerShares();
        due.is("told(0)", x.told(0), STATE);
        due.is("told(7)", x.told(7), STATE);
        due.is("told(8)", x.told(8), BAD);
        due.is("told(-1)", x.told(-1), BAD);
        due.is("behind(0, 0)", x.behind(0, 0), STATE);
        due.is("behind(40, 7)", x.behind(40, 7), STATE);
        due.is("behind(41, 7)", x.behind(41, 7), BAD);
        due.is("behind(-1, 0)", x.behind(-1, 0), BAD);
        due.is("behind(0, -1)", x.behind(0, -1), BAD);
        due.is("behind(40, 8)", x.behind(40, 8), BAD);
    }

    private static void wrongCallsChangeNothing() {
        due.about("BAD .., STATE, FULL: then nothing changes");
        LedgerShares ran = ranOnce();
        wrongCalls(ran);
        due.alike("behind a run", ran, ranOnce());
        LedgerShares none = new LedgerShares();
        wrongCalls(none);
        due.is("state", none.told(0), STATE);
        due.is("state", none.behind(0, 0), STATE);
        due.alike("a new object", none, new LedgerShares());
        LedgerShares all = full(1);
        wrongCalls(all);
        due.is("full", all.call(PUT, 0, 0, 0, 1), FULL);
        due.is("state", all.told(0), STATE);
        due.alike("40 calls", all, full(1));
        due.is("they run alike", all.run(40, 5, 6, 7), full(1).run(40, 5, 6, 7));
    }

    private static void wrongCalls(LedgerShares x) {
        int calls = x.count(0);
        long[] answers = {x.call(-1, 0, 0, 0, 1), x.call(6, 0, 0, 0, 1), x.call(0, 8, 0, 0, 1), x.call(0, 0, 8, 0, 1),
            x.call(0, 0, 0, MOST + 1, 1), x.call(0, 0, 0, 0, 0), x.call(0, 0, 0, 0, 10), x.gone(-1, 5), x.gone(16, 5),
            x.gone(0, -1), x.gone(0, 100), x.run(-1, 1, 1, 1), x.run(calls + 1, 1, 1, 1), x.run(calls, 0, 1, 1),
            x.run(calls, 17, 1, 1), x.run(calls, 1, 1, 0), x.run(calls, 1, 1, 41), x.behind(-1, 0), x.behind(41, 0),
            x.behind(0, 8), x.outcome(-1), x.outcome(calls), x.of(calls, 0), x.of(0, 4), x.told(-1), x.told(8),
            x.count(-1), x.count(3)};
        for (int each = 0; each < answers.length; each++) {
            due.is("wrong call " + each, answers[each], BAD);
        }
    }
}
