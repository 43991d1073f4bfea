/**
 * Each promise by hand: ordinary inputs, the edges that the document names, wrong inputs.
 * With 2 WORKERS the SEED 19 gives the turns 0 1 1 0 0 1 0 1 1 1 1 1 0 1 0 1 0 1 0 0 0.
 */
public final class PromisesTest {
    private static final int PUT = 0, ADD = 1, PAY = 2, WANT = 3, TURN = 4, MEET = 5;
    private static final int NONE = -1, BAD = -2, STATE = -3, FULL = -4, REFUSED = -5;
    private static final int LOW = Integer.MIN_VALUE, HIGH = Integer.MAX_VALUE;
    private static final Due due = new Due();

    public static void main(String[] args) {
        promise1();
        promise2();
        promise2Ops();
        promise3();
        promise4();
        promise5();
        promise5Ahead();
        promise5Refused();
        promise6();
        promise7();
        promise8();
        promise9();
        promise10();
        promise11();
        promise12();
        due.end();
    }

    /** CALL 1 hangs on CALL 0, which takes longer. */
    private static LedgerShares two() {
        LedgerShares x = new LedgerShares();
        x.call(PUT, 0, 0, 5, 2);
        x.call(ADD, 0, 1, 1, 1);
        return x;
    }

    private static void promise1() {
        LedgerShares x = new LedgerShares();
        for (int what = 0; what <= 2; what++) {
            due.is("1: count(" + what + ")", x.count(what), 0);
        }
        for (int worker = 0; worker < 16; worker++) {
            due.is("1: gone(" + worker + ", 0)", x.gone(worker, 0), 0);
        }
        due.is("1: told", x.told(0), STATE);
        due.is("1: amount", x.amount(0), 0);
        due.is("1: outcome", x.outcome(0), BAD);
        due.is("1: of", x.of(0, 0), BAD);
        due.is("1: clear", x.clear(), 0);
        LedgerShares y = new LedgerShares();
        y.call(PUT, 0, 0, 1, 1);
        due.is("1: objects share nothing", x.count(0), 0);
    }

    private static void promise2() {
        LedgerShares x = new LedgerShares();
        int[][] wrong = {
            {-1, 0, 0, 0, 1}, {6, 0, 0, 0, 1}, {0, -1, 0, 0, 1}, {0, 8, 0, 0, 1}, {0, 0, -1, 0, 1},
            {0, 0, 8, 0, 1}, {0, 0, 0, -1000001, 1}, {0, 0, 0, 1000001, 1}, {0, 0, 0, 0, 0},
            {0, 0, 0, 0, 10}, {LOW, 0, 0, 0, 1}, {0, HIGH, 0, 0, 1}, {0, 0, LOW, 0, 1},
            {0, 0, 0, LOW, 1}, {0, 0, 0, HIGH, 1}, {0, 0, 0, 0, -1}, {0, 0, 0, 0, HIGH}};
        for (int[] w : wrong) {
            due.is("2: wrong call", x.call(w[0], w[1], w[2], w[3], w[4]), BAD);
        }
        due.is("2: nothing entered", x.count(0), 0);
        due.is("2: the least", x.call(0, 0, 0, -1000000, 1), 0);
        due.is("2: the most", x.call(5, 7, 7, 1000000, 9), 1);
        x.run(2, 1, 1, 40);
        for (int number = 2; number < 40; number++) {
            due.is("2: its number", x.call(PUT, 1, 2, number, 1), number);
        }
        due.is("2: full", x.call(PUT, 0, 0, 0, 1), FULL);
        due.is("2: bad ahead of full", x.call(6, 0, 0, 0, 1), BAD);
        due.is("2: 40 at most", x.count(0), 40);
        due.is("2: the RUN stays", x.told(0), 2);
        due.is("2: its amount stays", x.amount(0), -1000000);
        due.is("2: its key 2 stays", x.amount(2), 0);
    }

    /** Works the CALLS so far and looks at the last one. */
    private static void opIs(String name, LedgerShares x, int key, long amount, int outcome) {
        int calls = x.count(0);
        x.run(calls, 1, 3, 40);
        due.is(name + ": amount", x.amount(key), amount);
        due.is(name + ": outcome", x.outcome(calls - 1), outcome);
    }

    private static void promise2Ops() {
        LedgerShares x = new LedgerShares();
        x.call(PUT, 1, 0, 100, 1);
        opIs("PUT", x, 0, 100, 1);
        due.is("PUT leaves a", x.amount(1), 0);
        x.call(ADD, 0, 1, -30, 1);
        opIs("ADD", x, 1, 70, 1);
        due.is("ADD leaves a", x.amount(0), 100);
        x.call(ADD, 1, 1, 2, 1);
        opIs("ADD of one KEY", x, 1, 142, 1);
        x.call(PAY, 0, 2, 60, 1);
        opIs("PAY from", x, 0, 40, 1);
        due.is("PAY to", x.amount(2), 60);
        x.call(PAY, 0, 2, 41, 1);
        opIs("PAY of too much", x, 0, 40, 2);
        due.is("PAY of too much, to", x.amount(2), 60);
        x.call(PAY, 0, 2, 40, 1);
        opIs("PAY of all", x, 0, 0, 1);
        due.is("PAY of all, to", x.amount(2), 100);
        x.call(PAY, 2, 0, -1, 1);
        opIs("PAY below 0", x, 2, 100, 2);
        x.call(PAY, 2, 0, 0, 1);
        opIs("PAY of 0", x, 2, 100, 1);
        x.call(PAY, 2, 2, 100, 1);
        opIs("PAY to one KEY", x, 2, 100, 1);
        x.call(PAY, 2, 2, 101, 1);
        opIs("PAY of too much to one KEY", x, 2, 100, 2);
        x.call(WANT, 2, 3, 100, 1);
        opIs("WANT", x, 2, 100, 1);
        x.call(WANT, 2, 3, 101, 1);
        opIs("WANT of too much", x, 2, 100, 2);
        x.call(TURN, 1, 2, 9, 1);
        opIs("TURN a", x, 1, 100, 1);
        due.is("TURN b", x.amount(2), 142);
        x.call(TURN, 2, 2, 9, 1);
        opIs("TURN of one KEY", x, 2, 142, 1);
        x.call(MEET, 1, 2, 7, 1);
        opIs("MEET of unlike ones", x, 2, 142, 2);
        x.call(MEET, 3, 0, 7, 1);
        opIs("MEET", x, 0, 7, 1);
        due.is("MEET leaves a", x.amount(3), 0);
        x.call(MEET, 2, 2, 8, 1);
        opIs("MEET of one KEY", x, 2, 8, 1);
        LedgerShares y = new LedgerShares();
        for (int number = 0; number < 40; number++) {
            y.call(ADD, 7, 7, 1000000, 1);
        }
        opIs("ADD beyond 32 bits", y, 7, 1000000L * ((1L << 40) - 1), 1);
    }

    private static void promise3() {
        LedgerShares x = two();
        x.gone(2, 9);
        x.gone(0, 1);
        due.is("3: refused", x.run(2, 1, 19, 40), REFUSED);
        x.gone(0, 0);
        x.run(2, 2, 19, 40);
        due.is("3: how many", x.clear(), 2);
        due.is("3: none now", x.clear(), 0);
        for (int what = 0; what <= 2; what++) {
            due.is("3: count(" + what + ")", x.count(what), 0);
        }
        due.is("3: told", x.told(0), STATE);
        due.is("3: behind", x.behind(40, 0), STATE);
        due.is("3: amount", x.amount(0), 0);
        due.is("3: no such call", x.outcome(0), BAD);
        due.is("3: gone stays", x.gone(2, 0), 9);
        due.is("3: numbers from 0 again", x.call(WANT, 0, 0, 1, 1), 0);
        due.is("3: the new call is of no run", x.outcome(0), 0);
        due.is("3: of no run", x.of(0, 0), NONE);
        x.run(1, 1, 1, 1);
        due.is("3: the new call fails", x.outcome(0), 2);
        due.is("3: amount of the new run", x.amount(0), 0);
    }

    private static void promise4() {
        LedgerShares x = two();
        due.is("4: worker -1", x.gone(-1, 1), BAD);
        due.is("4: worker 16", x.gone(16, 1), BAD);
        due.is("4: n -1", x.gone(0, -1), BAD);
        due.is("4: n 100", x.gone(0, 100), BAD);
        due.is("4: far off", x.gone(LOW, HIGH), BAD);
        due.is("4: nothing told", x.gone(0, 99), 0);
        due.is("4: told before", x.gone(0, 0), 99);
        due.is("4: last worker", x.gone(15, 1), 0);
        due.is("4: last worker before", x.gone(15, 0), 1);

        // TICK 2: WORKER 1 takes CALL 1 and is GONE; 0 works 3, 4, takes CALL 1 at 5.
        x.gone(1, 1);
        due.is("4: gone at 1", x.run(2, 2, 19, 40), 6);
        due.told("4: gone at 1", x, 2, 6, 3, 0, 1, 1, 0, 0);
        due.of("4: gone at 1", x, 1, 2, 2, 6, 0);
        due.is("4: in each run", x.run(2, 2, 19, 40), 6);

        // TICK 6: WORKER 1 takes CALL 1 anew and is GONE; 0 takes it at 7.
        x.gone(1, 2);
        due.is("4: gone at 2", x.run(2, 2, 19, 40), 8);
        due.told("4: gone at 2", x, 2, 8, 4, 1, 1, 2, 0, 0);
        due.of("4: gone at 2", x, 1, 3, 2, 8, 0);

        x.gone(1, 3);
        due.is("4: never came to 3", x.run(2, 2, 19, 40), 8);
        due.is("4: none gone", x.told(4), 0);

        // With WORKER 0 GONE at TICK 1 the only one left is 1.
        x.gone(1, 0);
        x.gone(0, 1);
        due.is("4: the first gone", x.run(2, 2, 19, 40), 6);
        due.of("4: the first gone", x, 0, 2, 1, 4, 1);
    }

    private static void promise5() {
        LedgerShares x = two();
        int[][] wrong = {{-1, 1, 0, 1}, {3, 1, 0, 1}, {2, 0, 0, 1}, {2, 17, 0, 1}, {2, 1, 0, 0},
            {2, 1, 0, 41}, {LOW, 1, 0, 1}, {HIGH, 1, 0, 1}, {2, LOW, 0, 1}, {2, HIGH, 0, 1},
            {2, 1, 0, LOW}, {2, 1, 0, HIGH}};
        for (int[] w : wrong) {
            due.is("5: wrong run", x.run(w[0], w[1], w[2], w[3]), BAD);
        }
        due.is("5: none was", x.told(0), STATE);
        due.is("5: none counted", x.count(1) + x.count(2), 0);
        due.is("5: one worker", x.run(2, 1, 7, 1), 5);
        due.is("5: one worker, any seed", x.run(2, 1, LOW, 40), 5);
        due.is("5: one worker, any seed", x.run(2, 1, HIGH, 40), 5);
        due.is("5: the first call", x.run(1, 1, 7, 1), 3);
        due.is("5: no calls", x.run(0, 16, 7, 1), 0);
        LedgerShares y = new LedgerShares();
        for (int number = 0; number < 40; number++) {
            y.call(PUT, 0, 0, number, 9);
        }
        due.is("5: all calls", y.run(40, 1, 7, 40), 400);
        due.is("5: the last put", y.amount(0), 39);
    }

    private static void promise5Ahead() {
        // 1: 0 takes CALL 0. 2: 1 takes CALL 1. 3: 1 ends it. 4, 5: 0 ends CALL 0, KEPT; CALL 1
        // read key 0 as 0: ANEW. 6: 1 takes CALL 1. 7: 0 does nothing. 8: 1 ends it, KEPT.
        LedgerShares x = two();
        due.is("5: ahead", x.run(2, 2, 19, 40), 8);
        due.told("5: ahead", x, 2, 8, 3, 1, 0, 2, 1, 0);
        due.of("5: ahead", x, 0, 1, 1, 5, 0);
        due.of("5: ahead", x, 1, 2, 2, 8, 1);
        due.is("5: ahead, key 1", x.amount(1), 6);

        // 2, 3: WORKER 1 finds no CALL within the ROOM; it takes CALL 1 at 6.
        due.is("5: room of 1", x.run(2, 2, 19, 1), 8);
        due.told("5: room of 1", x, 2, 8, 2, 0, 0, 1, 3, 0);
        due.of("5: room of 1", x, 1, 1, 6, 8, 1);
        due.is("5: room of 2", x.run(2, 2, 19, 2), 8);
        due.is("5: room of 2, begun", x.told(2), 3);

        // CALL 2 reads at TICK 6 what CALL 1, ENDED but not KEPT, gave: no ANEW; all KEPT at 21.
        LedgerShares y = new LedgerShares();
        y.call(WANT, 0, 0, 0, 9);
        y.call(PUT, 1, 1, 7, 1);
        y.call(ADD, 1, 2, 0, 1);
        due.is("5: reads ahead", y.run(3, 2, 19, 40), 21);
        due.told("5: reads ahead", y, 3, 21, 3, 0, 0, 2, 7, 0);
        due.of("5: reads ahead", y, 2, 1, 6, 21, 1);
        due.is("5: reads ahead, key 2", y.amount(2), 7);

        // PUT reads too: what it read of b no longer stands behind CALL 0.
        LedgerShares z = new LedgerShares();
        z.call(PUT, 0, 0, 5, 2);
        z.call(PUT, 1, 0, 6, 1);
        due.is("5: a PUT anew", z.run(2, 2, 19, 40), 8);
        due.is("5: a PUT anew, anew", z.told(3), 1);

        // An AMOUNT that became what it was: what was read still stands.
        LedgerShares u = new LedgerShares();
        u.call(PUT, 0, 0, 0, 2);
        u.call(ADD, 0, 1, 1, 1);
        due.is("5: still stands", u.run(2, 2, 19, 40), 5);
        due.is("5: still stands, anew", u.told(3), 0);
    }

    private static void promise5Refused() {
        LedgerShares x = two();
        x.run(2, 2, 19, 40);
        x.call(PUT, 0, 0, 9, 1);
        x.gone(0, 1);
        x.gone(1, 1);
        due.is("5: refused", x.run(3, 2, 19, 40), REFUSED);
        due.is("5: refused counts", x.count(2), 1);
        due.is("5: done stays", x.count(1), 1);
        due.told("5: refused", x, 2, 8, 3, 1, 0, 2, 1, 0);
        due.is("5: amount as ahead", x.amount(0), 5);
        due.is("5: outcome as ahead", x.outcome(2), 0);
        due.of("5: as ahead", x, 1, 2, 2, 8, 1);
        due.is("5: bad ahead of refused", x.run(4, 2, 19, 40), BAD);
        due.is("5: no calls, none begun", x.run(0, 2, 19, 40), 0);
        due.is("5: a third one", x.run(3, 3, 19, 40) > 0, true);
        LedgerShares y = two();
        y.gone(0, 1);
        due.is("5: refused first", y.run(2, 1, 19, 40), REFUSED);
        due.is("5: refused first, none", y.told(0), STATE);
    }

    private static void promise6() {
        LedgerShares x = two();
        due.is("6: without", x.amount(0), 0);
        x.run(2, 2, 19, 40);
        due.is("6: key 0", x.amount(0), 5);
        due.is("6: key 1", x.amount(1), 6);
        due.is("6: key 7", x.amount(7), 0);
        due.is("6: key -1", x.amount(-1), 0);
        due.is("6: key 8", x.amount(8), 0);
        due.is("6: far off", x.amount(LOW) + x.amount(HIGH), 0);
        x.run(1, 2, 19, 40);
        due.is("6: of the latest", x.amount(1), 0);
        x.run(0, 2, 19, 40);
        due.is("6: of no calls", x.amount(0), 0);
    }

    private static void promise7() {
        LedgerShares x = two();
        x.call(TURN, 0, 1, 0, 1);
        x.call(PUT, 7, 7, -2, 1);
        due.is("7: none, 0", x.behind(0, 0), STATE);
        due.is("7: none, 40", x.behind(40, 7), STATE);
        due.is("7: none, 41", x.behind(41, 0), BAD);
        due.is("7: none, -1", x.behind(-1, 0), BAD);
        due.is("7: none, key -1", x.behind(0, -1), BAD);
        due.is("7: none, key 8", x.behind(0, 8), BAD);
        x.run(4, 3, 19, 40);
        long[] key0 = {0, 5, 5, 6, 6};
        long[] key1 = {0, 0, 6, 5, 5};
        for (int n = 0; n <= 4; n++) {
            due.is("7: behind(" + n + ", 0)", x.behind(n, 0), key0[n]);
            due.is("7: behind(" + n + ", 1)", x.behind(n, 1), key1[n]);
        }
        due.is("7: like BAD", x.behind(4, 7), -2);
        due.is("7: n 5", x.behind(5, 0), BAD);
        due.is("7: n -1", x.behind(-1, 0), BAD);
        due.is("7: key 8", x.behind(4, 8), BAD);
        due.is("7: key -1", x.behind(4, -1), BAD);
        due.is("7: far off", x.behind(HIGH, LOW), BAD);
        x.run(2, 1, 1, 1);
        due.is("7: as many as it had", x.behind(2, 1), 6);
        due.is("7: one more", x.behind(3, 1), BAD);
    }

    private static void promise8() {
        LedgerShares x = two();
        x.call(WANT, 1, 0, 7, 1);
        due.is("8: no run", x.outcome(0), 0);
        due.is("8: call -1", x.outcome(-1), BAD);
        due.is("8: call 3", x.outcome(3), BAD);
        due.is("8: far off", x.outcome(LOW), BAD);
        due.is("8: far off", x.outcome(HIGH), BAD);
        x.run(3, 3, 19, 40);
        due.is("8: worked", x.outcome(0), 1);
        due.is("8: worked", x.outcome(1), 1);
        due.is("8: failed", x.outcome(2), 2);
        due.is("8: call 3 of 3", x.outcome(3), BAD);
        x.call(PUT, 0, 0, 0, 1);
        due.is("8: came later", x.outcome(3), 0);
        x.run(1, 1, 1, 1);
        due.is("8: none of the latest", x.outcome(2), 0);

        // CALL 1 FAILS at first (TICK 3), then is WORKED.
        LedgerShares y = new LedgerShares();
        y.call(PUT, 0, 0, 5, 2);
        y.call(WANT, 0, 0, 5, 1);
        y.run(2, 2, 19, 40);
        due.is("8: failed, then worked", y.outcome(1), 1);
        due.is("8: failed, then worked: told", y.told(7), 0);
    }

    private static void promise9() {
        LedgerShares x = two();
        due.is("9: no run", x.of(0, 0), NONE);
        due.is("9: no run, call 2", x.of(2, 0), BAD);
        x.run(2, 2, 19, 40);
        due.of("9", x, 0, 1, 1, 5, 0);
        due.of("9", x, 1, 2, 2, 8, 1);
        due.is("9: call -1", x.of(-1, 0), BAD);
        due.is("9: call 2", x.of(2, 0), BAD);
        due.is("9: what -1", x.of(0, -1), BAD);
        due.is("9: what 4", x.of(0, 4), BAD);
        due.is("9: far off", x.of(HIGH, 0), BAD);
        due.is("9: far off", x.of(0, LOW), BAD);
        x.call(PUT, 0, 0, 0, 1);
        due.of("9: came later", x, 2, NONE, NONE, NONE, NONE);
        due.is("9: came later, what 4", x.of(2, 4), BAD);
        x.run(1, 1, 1, 1);
        due.of("9: none of the latest", x, 1, NONE, NONE, NONE, NONE);
        due.of("9: the latest", x, 0, 1, 1, 3, 0);
    }

    private static void promise10() {
        LedgerShares x = two();
        for (int what = 0; what <= 7; what++) {
            due.is("10: no run", x.told(what), STATE);
        }
        due.is("10: bad ahead", x.told(8), BAD);
        due.is("10: bad ahead", x.told(-1), BAD);
        x.call(WANT, 1, 0, 7, 1);
        // CALL 1 ANEW at 5 as above; 6: 1 takes CALL 1. 7: 0 takes CALL 2 (key 1 is 0).
        // 8: 1 ends CALL 1, KEPT. 9: 1 does nothing till 0 steps at 13: it read 0, 6 is due: ANEW.
        // 14: 1 takes CALL 2. 15: 0 does nothing. 16: 1 ends it, KEPT.
        due.is("10: run", x.run(3, 2, 19, 40), 16);
        due.told("10", x, 3, 16, 5, 2, 0, 2, 5, 1);
        due.is("10: what 8", x.told(8), BAD);
        due.is("10: what -1", x.told(-1), BAD);
        due.is("10: far off", x.told(LOW), BAD);
        due.is("10: far off", x.told(HIGH), BAD);
        x.run(0, 3, 1, 1);
        due.told("10: no calls", x, 0, 0, 0, 0, 0, 0, 0, 0);
    }

    private static void promise11() {
        LedgerShares x = two();
        due.is("11: same", x.same(1, 1, 2, 19), true);
        due.is("11: same", x.same(16, LOW, 16, HIGH), true);
        due.is("11: 0 workers", x.same(0, 1, 2, 19), false);
        due.is("11: 17 workers", x.same(17, 1, 2, 19), false);
        due.is("11: 0 others", x.same(2, 1, 0, 19), false);
        due.is("11: 17 others", x.same(2, 1, 17, 19), false);
        due.is("11: far off", x.same(LOW, 1, HIGH, 19), false);
        due.is("11: leaves no run", x.told(0), STATE);
        x.run(1, 2, 19, 40);
        x.gone(0, 1);
        due.is("11: first refused", x.same(1, 1, 2, 19), false);
        due.is("11: other refused", x.same(2, 19, 1, 1), false);
        due.is("11: none refused", x.same(2, 19, 3, 1), true);
        due.is("11: leaves the run", x.told(0), 1);
        due.is("11: leaves the amounts", x.amount(1), 0);
        due.is("11: leaves the figures", x.of(0, 3), 0);
        due.is("11: counts no run", x.count(1), 1);
        due.is("11: counts no refusal", x.count(2), 0);
        due.is("11: no calls", new LedgerShares().same(1, 1, 2, 2), true);
    }

    private static void promise12() {
        LedgerShares x = two();
        due.is("12: calls", x.count(0), 2);
        x.run(2, 2, 19, 40);
        x.run(0, 2, 19, 40);
        x.gone(0, 1);
        x.run(2, 1, 19, 40);
        x.run(3, 1, 19, 40);
        x.same(1, 1, 1, 1);
        due.is("12: runs", x.count(1), 2);
        due.is("12: refused", x.count(2), 1);
        due.is("12: what -1", x.count(-1), BAD);
        due.is("12: what 3", x.count(3), BAD);
        due.is("12: far off", x.count(LOW), BAD);
        due.is("12: far off", x.count(HIGH), BAD);
    }
}
