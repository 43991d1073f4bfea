/**
 * The boundary cases of promises 1 to 12: what each answers for a number just inside and just outside
 * of what it takes, with no CALLS, with 40 CALLS, without a RUN, and behind a refused RUN.
 */
public final class PromiseBoundsTest {
    private static final int PUT = 0, ADD = 1, WANT = 3;
    private static final int NONE = -1, BAD = -2, STATE = -3, FULL = -4, REFUSED = -5;
    private static final int LOW = Integer.MIN_VALUE, HIGH = Integer.MAX_VALUE;
    private static final Due due = new Due();

    public static void main(String[] args) {
        newObject();
        objectsShareNothing();
        callNumbers();
        callLeavesTheRun();
        callBehindARefusal();
        clearOfNone();
        clearOfForty();
        clearLeavesNoRun();
        clearLeavesGone();
        goneNumbers();
        goneNever();
        goneInEachRun();
        runCalls();
        runWorkers();
        runRoom();
        runBadAheadOfRefused();
        runBehindARefusal();
        amountKeys();
        amountWithout();
        amountOfTheLatest();
        behindNumbers();
        behindWithout();
        behindAmountsLikeAnswers();
        behindARefusal();
        outcomeCalls();
        outcomeWithout();
        outcomeOfNoneOfIt();
        ofNumbers();
        ofWithout();
        ofNoneOfIt();
        ofEndedLast();
        toldNumbers();
        toldWithout();
        toldOfNoCalls();
        toldOfForty();
        toldGoneAndMost();
        sameWorkers();
        sameOfNoCalls();
        sameOfAllCalls();
        sameRefused();
        sameWithARoomOfForty();
        sameLeavesNothing();
        countNumbers();
        countRuns();
        countRefused();
        due.end();
    }

    /** CALL 1 hangs on CALL 0, which takes longer; with the SEED 19 and 2 WORKERS it is ANEW. */
    private static LedgerShares two() {
        LedgerShares x = new LedgerShares();
        x.call(PUT, 0, 0, 5, 2);
        x.call(ADD, 0, 1, 1, 1);
        return x;
    }

    /** CALL n puts n + 1 to KEY n % 8, in one STEP. */
    private static LedgerShares forty() {
        LedgerShares x = new LedgerShares();
        for (int number = 0; number < 40; number++) {
            x.call(PUT, 0, number % 8, number + 1, 1);
        }
        return x;
    }

    /** All CALLS are REFUSED with any number of WORKERS, as long as there are any. */
    private static void refuse(LedgerShares x) {
        for (int worker = 0; worker < 16; worker++) {
            x.gone(worker, 1);
        }
        due.is("it is refused", x.run(x.count(0), 16, 19, 40), REFUSED);
    }

    private static void newObject() {
        due.about("1: No CALLS; no WORKER is told to be GONE; there was no RUN");
        LedgerShares x = new LedgerShares();
        for (int what = 0; what <= 2; what++) {
            due.is("count(" + what + ")", x.count(what), 0);
        }
        for (int what = 0; what <= 7; what++) {
            due.is("told(" + what + ")", x.told(what), STATE);
            due.is("amount(" + what + ")", x.amount(what), 0);
        }
        for (int n = 0; n <= 40; n++) {
            due.is("behind(" + n + ", 0)", x.behind(n, 0), STATE);
            due.is("outcome(" + n + ")", x.outcome(n), BAD);
            due.is("of(" + n + ", 0)", x.of(n, 0), BAD);
        }
        due.is("same", x.same(1, 1, 16, 2), true);
        for (int worker = 0; worker <= 15; worker++) {
            due.is("gone(" + worker + ", 0)", x.gone(worker, 0), 0);
        }
        due.is("clear", x.clear(), 0);
    }

    private static void objectsShareNothing() {
        due.about("1: A new object beside another one");
        LedgerShares x = two();
        x.run(2, 2, 19, 40);
        refuse(x);
        due.alike("as the first ever", new LedgerShares(), new LedgerShares());
        LedgerShares y = new LedgerShares();
        due.is("no calls", y.count(0), 0);
        due.is("no run", y.told(0), STATE);
        due.is("none told to be gone", y.gone(0, 0), 0);
        y.call(PUT, 0, 0, 9, 1);
        y.run(1, 1, 1, 1);
        due.is("the other's amount stays", x.amount(0), 5);
        due.is("the other's calls stay", x.count(0), 2);
    }

    private static void callNumbers() {
        due.about("2: A CALL more: its number. BAD; FULL");
        int[] least = {0, 0, 0, -1000000, 1};
        int[] most = {5, 7, 7, 1000000, 9};
        LedgerShares x = new LedgerShares();
        int entered = 0;
        for (int which = 0; which < 5; which++) {
            for (int[] rest : new int[][] {least, most}) {
                int[] offs = {least[which], most[which], least[which] - 1, most[which] + 1, LOW, HIGH};
                for (int off : offs) {
                    int[] n = rest.clone();
                    n[which] = off;
                    boolean fits = least[which] <= off && off <= most[which];
                    int got = x.call(n[0], n[1], n[2], n[3], n[4]);
                    due.is("number " + which + " is " + off, got, fits ? entered : BAD);
                    entered += fits ? 1 : 0;
                }
            }
        }
        due.is("how many", x.count(0), 20);
        for (int number = 20; number < 40; number++) {
            due.is("its number", x.call(0, 0, 0, 0, 1), number);
        }
        due.is("full, the least", x.call(0, 0, 0, -1000000, 1), FULL);
        due.is("full, the most", x.call(5, 7, 7, 1000000, 9), FULL);
        due.is("full and bad", x.call(5, 7, 7, 1000000, 10), BAD);
    }

    private static void callLeavesTheRun() {
        due.about("2: (What the latest RUN left stays.)");
        LedgerShares x = two();
        x.run(2, 2, 19, 40);
        for (int number = 2; number < 40; number++) {
            x.call(PUT, 0, number % 2, 9, 1);
        }
        x.call(PUT, 0, 0, 9, 1);
        due.told("with 40 calls", x, 2, 8, 3, 1, 0, 2, 1, 0);
        due.of("with 40 calls", x, 1, 2, 2, 8, 1);
        due.is("key 0", x.amount(0), 5);
        due.is("key 1", x.amount(1), 6);
        due.is("behind 2", x.behind(2, 1), 6);
        due.is("behind 3", x.behind(3, 1), BAD);
        due.is("runs", x.count(1), 1);
        LedgerShares y = new LedgerShares();
        y.run(0, 1, 1, 1);
        y.call(PUT, 0, 0, 9, 1);
        due.told("a run of none", y, 0, 0, 0, 0, 0, 0, 0, 0);
        due.is("a run of none, key 0", y.amount(0), 0);
    }

    private static void callBehindARefusal() {
        due.about("2: A CALL more, behind a refused RUN");
        LedgerShares x = two();
        refuse(x);
        due.is("its number", x.call(PUT, 2, 2, 4, 1), 2);
        due.is("no run", x.told(0), STATE);
        x.gone(3, 0);
        due.is("with one that stays", x.run(3, 4, 1, 40) > 0, true);
        due.is("its amount", x.amount(2), 4);
    }

    private static void clearOfNone() {
        due.about("3: how many CALLS there were: none");
        LedgerShares x = new LedgerShares();
        due.is("a new object", x.clear(), 0);
        x.run(0, 1, 1, 1);
        due.is("behind a run of none", x.clear(), 0);
        due.is("there was no run", x.told(0), STATE);
        due.is("no run is counted", x.count(1), 0);
    }

    private static void clearOfForty() {
        due.about("3: how many CALLS there were: 40");
        LedgerShares x = forty();
        due.is("without a run", x.clear(), 40);
        for (int number = 0; number < 40; number++) {
            due.is("place for 40 again", x.call(WANT, 0, 0, 1, 1), number);
        }
        due.is("and no more", x.call(WANT, 0, 0, 1, 1), FULL);
        due.is("the new ones are run", x.run(40, 1, 1, 1), 80);
        due.is("the new ones fail", x.told(7), 40);
        due.is("behind a run", x.clear(), 40);
        due.is("once more", x.clear(), 0);
    }

    private static void clearLeavesNoRun() {
        due.about("3: No CALLS any more, and there was no RUN");
        LedgerShares x = two();
        x.run(2, 2, 19, 40);
        x.run(1, 2, 19, 40);
        x.gone(0, 1);
        due.is("one is refused", x.run(2, 1, 19, 40), REFUSED);
        x.gone(0, 0);
        due.is("how many", x.clear(), 2);
        due.alike("as a new object", x, new LedgerShares());
        due.is("behind is as without a run", x.behind(40, 0), STATE);
        due.is("outcome of no call", x.outcome(0), BAD);
        due.is("of no call", x.of(0, 0), BAD);
        due.is("run of a call that was", x.run(1, 1, 1, 1), BAD);
        x.call(PUT, 7, 7, 1, 1);
        due.is("outcome of a new call", x.outcome(0), 0);
        due.of("a new call", x, 0, NONE, NONE, NONE, NONE);
        due.is("key 0 of no run", x.amount(0), 0);
        x.run(1, 1, 1, 1);
        due.is("key 0 of the new run", x.amount(0), 0);
        due.is("runs from 0 on", x.count(1), 1);
        due.is("refused from 0 on", x.count(2), 0);
    }

    private static void clearLeavesGone() {
        due.about("3: (nothing is said of GONE)");
        LedgerShares x = two();
        x.gone(0, 1);
        x.gone(15, 99);
        x.clear();
        x.call(PUT, 0, 0, 1, 1);
        due.is("still gone", x.run(1, 1, 1, 1), REFUSED);
        due.is("told before", x.gone(0, 0), 1);
        due.is("told before", x.gone(15, 0), 99);
    }

    private static void goneNumbers() {
        due.about("4: A WORKER (0 to 15), its BEGIN number n (1 to 99; 0: never): what was told before. BAD");
        LedgerShares x = new LedgerShares();
        for (int worker = 0; worker <= 15; worker++) {
            due.is("worker " + worker + ", the most", x.gone(worker, 99), 0);
            due.is("worker " + worker + ", the least", x.gone(worker, 1), 99);
            due.is("worker " + worker + ", its own", x.gone(worker, worker + 1), 1);
        }
        for (int worker : new int[] {-1, 16, LOW, HIGH}) {
            due.is("worker " + worker + ", n 1", x.gone(worker, 1), BAD);
            due.is("worker " + worker + ", n 0", x.gone(worker, 0), BAD);
        }
        for (int n : new int[] {-1, 100, LOW, HIGH}) {
            due.is("n " + n, x.gone(0, n), BAD);
            due.is("n " + n, x.gone(15, n), BAD);
            due.is("n " + n + ", worker 16", x.gone(16, n), BAD);
        }
        for (int worker = 0; worker <= 15; worker++) {
            due.is("worker " + worker + ", as told last", x.gone(worker, 0), worker + 1);
            due.is("worker " + worker + ", never", x.gone(worker, 0), 0);
        }
    }

    private static void goneNever() {
        due.about("4: 0: never");
        LedgerShares x = two();
        x.gone(0, 1);
        due.is("gone", x.run(2, 1, 1, 40), REFUSED);
        due.is("told before", x.gone(0, 0), 1);
        due.is("never", x.run(2, 1, 1, 40), 5);
        due.is("none gone", x.told(4), 0);
    }

    private static void goneInEachRun() {
        due.about("4: is GONE at its BEGIN number n, in each RUN");
        LedgerShares x = two();
        x.gone(1, 1);
        for (int run = 1; run <= 3; run++) {
            due.is("run " + run, x.run(2, 2, 19, 40), 6);
            due.told("run " + run, x, 2, 6, 3, 0, 1, 1, 0, 0);
        }
        x.gone(1, 0);
        x.gone(0, 3);
        for (int run = 1; run <= 3; run++) {
            due.is("its begins are counted from 1 on in each", x.run(2, 1, 1, 40), 5);
        }
        LedgerShares y = two();
        y.run(2, 2, 19, 40);
        y.gone(0, 1);
        due.told("what a run left stays", y, 2, 8, 3, 1, 0, 2, 1, 0);
    }

    private static void runCalls() {
        due.about("5: the first CALLS (0 to all)");
        LedgerShares none = new LedgerShares();
        due.is("none of none", none.run(0, 1, 1, 1), 0);
        due.is("none of none", none.run(0, 16, LOW, 40), 0);
        due.is("1 of none", none.run(1, 1, 1, 1), BAD);
        due.is("-1 of none", none.run(-1, 1, 1, 1), BAD);
        LedgerShares x = forty();
        due.is("40 of 40", x.run(40, 1, 1, 1), 80);
        due.is("39 of 40", x.run(39, 1, 1, 1), 78);
        due.is("1 of 40", x.run(1, 1, 1, 1), 2);
        due.is("none of 40", x.run(0, 1, 1, 1), 0);
        for (int calls : new int[] {-1, 41, LOW, HIGH}) {
            due.is(calls + " of 40", x.run(calls, 1, 1, 1), BAD);
        }
        due.is("how many were done", x.count(1), 4);
    }

    private static void runWorkers() {
        due.about("5: with WORKERS (1 to 16)");
        LedgerShares x = two();
        due.is("1", x.run(2, 1, 19, 40), 5);
        due.is("2", x.run(2, 2, 19, 40), 8);
        due.is("16", x.run(2, 16, 19, 40) > 5, true);
        for (int workers : new int[] {0, -1, 17, LOW, HIGH}) {
            due.is("" + workers, x.run(2, workers, 19, 40), BAD);
            due.is(workers + ", no calls", x.run(0, workers, 19, 40), BAD);
        }
        due.is("how many were done", x.count(1), 3);
    }

    private static void runRoom() {
        due.about("5: a ROOM (1 to 40)");
        LedgerShares x = two();
        due.is("1", x.run(2, 2, 19, 1), 8);
        due.told("1", x, 2, 8, 2, 0, 0, 1, 3, 0);
        due.is("40", x.run(2, 2, 19, 40), 8);
        due.told("40", x, 2, 8, 3, 1, 0, 2, 1, 0);
        for (int room : new int[] {0, -1, 41, LOW, HIGH}) {
            due.is("" + room, x.run(2, 2, 19, room), BAD);
            due.is(room + ", no calls", x.run(0, 2, 19, room), BAD);
        }
        due.is("how many were done", x.count(1), 2);
    }

    private static void runBadAheadOfRefused() {
        due.about("5: BAD; REFUSED");
        LedgerShares x = two();
        refuse(x);
        due.is("calls", x.run(3, 16, 19, 40), BAD);
        due.is("workers", x.run(2, 17, 19, 40), BAD);
        due.is("room", x.run(2, 16, 19, 41), BAD);
        due.is("only one was refused", x.count(2), 1);
        due.is("one more", x.run(2, 16, 19, 40), REFUSED);
        due.is("two were refused", x.count(2), 2);
    }

    private static void runBehindARefusal() {
        due.about("5: A RUN behind a refused RUN");
        LedgerShares x = two();
        refuse(x);
        due.is("no calls, none is gone", x.run(0, 16, 19, 40), 0);
        for (int worker = 0; worker < 16; worker++) {
            x.gone(worker, 0);
        }
        due.is("none is gone", x.run(2, 2, 19, 40), 8);
        due.told("as if none was refused", x, 2, 8, 3, 1, 0, 2, 1, 0);
        due.of("as if none was refused", x, 0, 1, 1, 5, 0);
        due.of("as if none was refused", x, 1, 2, 2, 8, 1);
        due.is("key 1", x.amount(1), 6);
    }

    private static void amountKeys() {
        due.about("6: AMOUNT of a KEY; 0 .. no such KEY");
        LedgerShares x = forty();
        x.run(40, 3, 1, 40);
        for (int key = 0; key <= 7; key++) {
            due.is("key " + key, x.amount(key), 33 + key);
        }
        for (int key : new int[] {-1, 8, LOW, HIGH}) {
            due.is("key " + key, x.amount(key), 0);
        }
    }

    private static void amountWithout() {
        due.about("6: 0 without");
        LedgerShares x = forty();
        LedgerShares y = two();
        refuse(y);
        for (int key = -1; key <= 8; key++) {
            due.is("no calls, key " + key, new LedgerShares().amount(key), 0);
            due.is("40 calls, key " + key, x.amount(key), 0);
            due.is("only one refused, key " + key, y.amount(key), 0);
        }
    }

    private static void amountOfTheLatest() {
        due.about("6: by the latest RUN that was not REFUSED");
        LedgerShares x = two();
        x.run(2, 2, 19, 40);
        due.is("of two calls", x.amount(1), 6);
        refuse(x);
        due.is("behind a refused one", x.amount(1), 6);
        due.is("wrong", x.run(3, 1, 1, 1), BAD);
        due.is("behind a wrong one", x.amount(1), 6);
        x.gone(0, 2);
        x.run(1, 1, 1, 1);
        due.is("of one call, key 0", x.amount(0), 5);
        due.is("of one call, key 1", x.amount(1), 0);
        x.run(0, 1, 1, 1);
        due.is("of no calls, key 0", x.amount(0), 0);
    }

    private static void behindNumbers() {
        due.about("7: behind the first n CALLS of that RUN (0 to as many as it had). BAD");
        LedgerShares x = forty();
        x.run(40, 3, 1, 40);
        due.is("0 of 40", x.behind(0, 7), 0);
        due.is("7 of 40", x.behind(7, 7), 0);
        due.is("8 of 40", x.behind(8, 7), 8);
        due.is("39 of 40", x.behind(39, 7), 32);
        due.is("40 of 40", x.behind(40, 7), 40);
        due.is("40 of 40, key 0", x.behind(40, 0), 33);
        for (int n : new int[] {-1, 41, LOW, HIGH}) {
            due.is(n + " of 40", x.behind(n, 7), BAD);
        }
        for (int key : new int[] {-1, 8, LOW, HIGH}) {
            due.is("key " + key, x.behind(0, key), BAD);
            due.is("key " + key, x.behind(40, key), BAD);
        }
        x.run(8, 3, 1, 40);
        due.is("8 of 8", x.behind(8, 7), 8);
        due.is("9 of 8", x.behind(9, 7), BAD);
        due.is("40 of 8", x.behind(40, 7), BAD);
        x.run(0, 3, 1, 40);
        due.is("0 of 0", x.behind(0, 7), 0);
        due.is("1 of 0", x.behind(1, 7), BAD);
    }

    private static void behindWithout() {
        due.about("7: without one 0 to 40. BAD; STATE: there was none");
        LedgerShares refused = two();
        refuse(refused);
        LedgerShares[] each = {new LedgerShares(), two(), forty(), refused};
        for (LedgerShares x : each) {
            for (int n : new int[] {0, 1, 2, 3, 39, 40}) {
                due.is("n " + n, x.behind(n, 0), STATE);
                due.is("n " + n, x.behind(n, 7), STATE);
                due.is("n " + n + ", key 8", x.behind(n, 8), BAD);
                due.is("n " + n + ", key -1", x.behind(n, -1), BAD);
            }
            due.is("n 41", x.behind(41, 0), BAD);
            due.is("n -1", x.behind(-1, 0), BAD);
        }
    }

    private static void behindAmountsLikeAnswers() {
        due.about("7: (An AMOUNT may be like these.)");
        LedgerShares x = new LedgerShares();
        for (int amount = -5; amount <= -1; amount++) {
            x.call(PUT, 0, 0, amount, 1);
        }
        x.run(5, 2, 1, 40);
        for (int n = 1; n <= 5; n++) {
            due.is("behind " + n, x.behind(n, 0), n - 6);
        }
        due.is("amount", x.amount(0), -1);
        x.run(4, 2, 1, 40);
        due.is("amount", x.amount(0), BAD);
    }

    private static void behindARefusal() {
        due.about("7: of that RUN, behind a refused RUN");
        LedgerShares x = two();
        x.run(2, 2, 19, 40);
        x.call(PUT, 0, 0, 9, 1);
        refuse(x);
        long[] key0 = {0, 5, 5}, key1 = {0, 0, 6};
        for (int n = 0; n <= 2; n++) {
            due.is("behind " + n + ", key 0", x.behind(n, 0), key0[n]);
            due.is("behind " + n + ", key 1", x.behind(n, 1), key1[n]);
        }
        due.is("behind 3", x.behind(3, 0), BAD);
    }

    private static void outcomeCalls() {
        due.about("8: OUTCOME of a CALL: 1, 2. BAD: no such CALL");
        LedgerShares x = new LedgerShares();
        due.is("call 0 of none", x.outcome(0), BAD);
        for (int number = 0; number < 40; number++) {
            x.call(WANT, 0, 0, number % 2, 1);
        }
        x.run(40, 3, 1, 40);
        due.is("the first", x.outcome(0), 1);
        due.is("the second", x.outcome(1), 2);
        due.is("the last but one", x.outcome(38), 1);
        due.is("the last", x.outcome(39), 2);
        for (int call : new int[] {-1, 40, 41, LOW, HIGH}) {
            due.is("call " + call, x.outcome(call), BAD);
        }
    }

    private static void outcomeWithout() {
        due.about("8: 0: it was none of it (without a RUN)");
        LedgerShares x = two();
        due.is("no run", x.outcome(0), 0);
        due.is("no run", x.outcome(1), 0);
        due.is("no such call", x.outcome(2), BAD);
        due.is("no such call", x.outcome(-1), BAD);
        refuse(x);
        due.is("only one refused", x.outcome(0), 0);
        due.is("only one refused", x.outcome(1), 0);
        due.is("only one refused, no such call", x.outcome(2), BAD);
        LedgerShares y = forty();
        due.is("40 calls", y.outcome(39), 0);
        due.is("40 calls", y.outcome(40), BAD);
    }

    private static void outcomeOfNoneOfIt() {
        due.about("8: of a CALL in that RUN; 0: it was none of it");
        LedgerShares x = two();
        x.call(WANT, 0, 0, 6, 1);
        x.run(3, 2, 19, 40);
        x.call(WANT, 0, 0, 6, 1);
        due.is("of it", x.outcome(2), 2);
        due.is("came later", x.outcome(3), 0);
        due.is("no such call", x.outcome(4), BAD);
        refuse(x);
        due.is("of it, behind a refused one", x.outcome(2), 2);
        due.is("not of it, behind a refused one", x.outcome(3), 0);
        x.gone(0, 0);
        x.run(2, 1, 1, 1);
        due.is("the last of it", x.outcome(1), 1);
        due.is("the next one", x.outcome(2), 0);
        x.run(0, 1, 1, 1);
        due.is("a run of none", x.outcome(0), 0);
    }

    private static void ofNumbers() {
        due.about("9: Of a CALL in that RUN: 0 .. 3. BAD");
        LedgerShares x = forty();
        x.run(40, 1, 1, 1);
        due.of("the first", x, 0, 1, 1, 2, 0);
        due.of("the last", x, 39, 1, 79, 80, 0);
        for (int call : new int[] {-1, 40, LOW, HIGH}) {
            for (int what = -1; what <= 4; what++) {
                due.is("call " + call + ", what " + what, x.of(call, what), BAD);
            }
        }
        for (int what : new int[] {-1, 4, LOW, HIGH}) {
            due.is("what " + what, x.of(0, what), BAD);
            due.is("what " + what, x.of(39, what), BAD);
        }
    }

    private static void ofWithout() {
        due.about("9: NONE: it was none of it (without a RUN)");
        LedgerShares refused = two();
        refuse(refused);
        for (LedgerShares x : new LedgerShares[] {two(), refused}) {
            due.of("the first", x, 0, NONE, NONE, NONE, NONE);
            due.of("the last", x, 1, NONE, NONE, NONE, NONE);
            due.is("what 4", x.of(0, 4), BAD);
            due.is("what -1", x.of(0, -1), BAD);
            due.is("call 2", x.of(2, 0), BAD);
            due.is("call -1", x.of(-1, 0), BAD);
        }
        due.is("no calls", new LedgerShares().of(0, 0), BAD);
        due.is("40 calls", forty().of(39, 3), NONE);
        due.is("40 calls", forty().of(40, 3), BAD);
    }

    private static void ofNoneOfIt() {
        due.about("9: NONE: it was none of it");
        LedgerShares x = two();
        x.run(1, 2, 19, 40);
        due.of("of it", x, 0, 1, 1, 5, 0);
        due.of("not of it", x, 1, NONE, NONE, NONE, NONE);
        due.is("not of it, what 4", x.of(1, 4), BAD);
        x.run(2, 2, 19, 40);
        refuse(x);
        due.of("behind a refused one", x, 1, 2, 2, 8, 1);
        x.run(0, 1, 1, 1);
        due.of("a run of none", x, 0, NONE, NONE, NONE, NONE);
    }

    private static void ofEndedLast() {
        due.about("9: 0 how often it was BEGUN, 1 .. first, 2 .. KEPT, 3 the WORKER that ended it last");
        // 1 takes CALL 1 at 2, ends it at 3; ANEW at 5; 0 takes it at 6 and ends it at 7.
        LedgerShares x = two();
        due.is("ticks", x.run(2, 2, Turns.seed(2, 0, 1, 1, 0, 0, 0, 0), 40), 7);
        due.of("call 1", x, 1, 2, 2, 7, 0);
        // 1 is GONE at TICK 1 with CALL 0: BEGUN, but not ended; 0 takes it at 2 and ends it at 4.
        x.gone(1, 1);
        due.is("ticks", x.run(2, 2, Turns.seed("1/2 0/1"), 40), 6);
        due.of("call 0", x, 0, 2, 1, 4, 0);
        due.of("call 1", x, 1, 1, 5, 6, 0);
    }

    private static void toldNumbers() {
        due.about("10: Of that RUN: 0 .. 7. BAD");
        LedgerShares x = two();
        x.run(2, 2, 19, 40);
        due.told("all", x, 2, 8, 3, 1, 0, 2, 1, 0);
        for (int what : new int[] {-1, 8, 9, LOW, HIGH}) {
            due.is("what " + what, x.told(what), BAD);
        }
        refuse(x);
        due.told("behind a refused one", x, 2, 8, 3, 1, 0, 2, 1, 0);
        due.is("what 8, behind a refused one", x.told(8), BAD);
    }

    private static void toldWithout() {
        due.about("10: STATE: there was none; BAD ahead");
        LedgerShares refused = two();
        refuse(refused);
        for (LedgerShares x : new LedgerShares[] {new LedgerShares(), two(), forty(), refused}) {
            for (int what = 0; what <= 7; what++) {
                due.is("what " + what, x.told(what), STATE);
            }
            for (int what : new int[] {-1, 8, LOW, HIGH}) {
                due.is("what " + what, x.told(what), BAD);
            }
        }
    }

    private static void toldOfNoCalls() {
        due.about("10: of a RUN of no CALLS");
        LedgerShares x = new LedgerShares();
        x.run(0, 1, 1, 1);
        due.told("none of none", x, 0, 0, 0, 0, 0, 0, 0, 0);
        LedgerShares y = two();
        y.run(2, 2, 19, 40);
        y.run(0, 16, 19, 40);
        due.told("none of two", y, 0, 0, 0, 0, 0, 0, 0, 0);
    }

    private static void toldOfForty() {
        due.about("10: of a RUN of 40 CALLS");
        LedgerShares x = new LedgerShares();
        for (int number = 0; number < 40; number++) {
            x.call(WANT, 0, 0, 1, 9);
        }
        due.is("alone", x.run(40, 1, 1, 40), 400);
        due.told("alone", x, 40, 400, 40, 0, 0, 1, 0, 40);
        due.is("with 16", x.run(40, 16, 1, 40) >= 400, true);
        due.is("all 16 were at it", x.told(5), 16);
        due.is("none anew", x.told(3), 0);
        due.is("all failed", x.told(7), 40);
    }

    private static void toldGoneAndMost() {
        due.about("10: 4 WORKERS GONE, 5 the most CALLS that were UNDER WAY behind a TICK");
        LedgerShares x = two();
        x.gone(0, 1);
        // 0 takes CALL 0 and is GONE: that is not UNDER WAY behind the TICK.
        due.is("ticks", x.run(1, 2, Turns.seed("0/2 0/1"), 40), 4);
        due.told("one gone", x, 1, 4, 2, 0, 1, 1, 0, 0);
        x.gone(0, 0);
        // CALL 0 is ended ahead of CALL 1's begin.
        due.is("ticks", x.run(2, 2, Turns.seed(2, 0, 0, 0, 1, 1), 40), 5);
        due.told("one at a time", x, 2, 5, 2, 0, 0, 1, 0, 0);
    }

    private static void sameWorkers() {
        due.about("11: two RUNS as by run(), with WORKERS 1 to 16");
        LedgerShares x = two();
        int[] fit = {1, 2, 15, 16};
        int[] wrong = {0, -1, 17, LOW, HIGH};
        for (int workers : fit) {
            for (int others : fit) {
                due.is(workers + " and " + others, x.same(workers, LOW, others, HIGH), true);
            }
            for (int others : wrong) {
                due.is(workers + " and " + others, x.same(workers, 1, others, 1), false);
                due.is(others + " and " + workers, x.same(others, 1, workers, 1), false);
            }
        }
        due.is("both wrong", x.same(0, 1, 0, 1), false);
        due.is("wrong, with no calls", new LedgerShares().same(0, 1, 17, 1), false);
    }

    private static void sameOfNoCalls() {
        due.about("11: two RUNS of no CALLS");
        LedgerShares x = new LedgerShares();
        due.is("no calls", x.same(1, 1, 16, 2), true);
        for (int worker = 0; worker < 16; worker++) {
            x.gone(worker, 1);
        }
        due.is("no calls, none is begun", x.same(1, 1, 16, 2), true);
        due.is("there was no run", x.told(0), STATE);
    }

    private static void sameOfAllCalls() {
        due.about("11: two RUNS of all CALLS");
        LedgerShares x = forty();
        due.is("40 calls", x.same(1, 1, 16, 2), true);
        x.gone(0, 40);
        x.run(39, 1, 1, 40);
        due.is("a run of 39 went through, one of all would not", x.same(1, 1, 16, 2), false);
        x.gone(0, 41);
        due.is("one of all would", x.same(1, 1, 16, 2), true);
    }

    private static void sameRefused() {
        due.about("11: false if one would be REFUSED");
        LedgerShares x = two();
        x.gone(0, 1);
        due.is("the first one", x.same(1, 1, 2, 19), false);
        due.is("the other one", x.same(2, 19, 1, 1), false);
        due.is("both", x.same(1, 1, 1, 1), false);
        due.is("none", x.same(2, 19, 2, 19), true);
    }

    private static void sameWithARoomOfForty() {
        due.about("11: with a ROOM of 40");
        // With a ROOM of 40 CALL 1 is begun ahead, and again: a second BEGIN of each WORKER.
        LedgerShares x = two();
        x.gone(0, 2);
        x.gone(1, 2);
        due.is("a room of 1", x.run(2, 2, 19, 1), 8);
        due.is("a room of 40", x.run(2, 2, 19, 40), REFUSED);
        due.is("so it would be", x.same(2, 19, 3, 1), false);
        due.is("others would not", x.same(3, 1, 3, 1), true);
    }

    private static void sameLeavesNothing() {
        due.about("11: They leave nothing");
        LedgerShares none = new LedgerShares();
        none.same(1, 1, 2, 2);
        due.alike("a new object", none, new LedgerShares());
        LedgerShares x = ranAndRefused();
        due.is("would go through", x.same(3, 1, 4, 1), true);
        due.is("would be refused", x.same(1, 1, 3, 1), false);
        due.is("would be refused", x.same(3, 1, 1, 1), false);
        due.is("wrong", x.same(0, 1, 17, 1), false);
        due.alike("behind a run and a refused one", x, ranAndRefused());
        due.is("a run behind it", x.run(2, 3, 19, 40), ranAndRefused().run(2, 3, 19, 40));
        LedgerShares y = two();
        y.same(2, 19, 1, 1);
        due.alike("without a run", y, two());
    }

    private static LedgerShares ranAndRefused() {
        LedgerShares x = two();
        x.run(2, 2, 19, 40);
        x.gone(0, 1);
        x.run(2, 1, 19, 40);
        return x;
    }

    private static void countNumbers() {
        due.about("12: How many: 0 CALLS. BAD");
        LedgerShares x = new LedgerShares();
        for (int number = 0; number < 40; number++) {
            due.is("calls", x.count(0), number);
            x.call(PUT, 0, 0, 0, 1);
        }
        due.is("40 calls", x.count(0), 40);
        x.call(PUT, 0, 0, 0, 1);
        due.is("40 at most", x.count(0), 40);
        for (int what : new int[] {-1, 3, LOW, HIGH}) {
            due.is("what " + what, x.count(what), BAD);
            due.is("what " + what, new LedgerShares().count(what), BAD);
        }
    }

    private static void countRuns() {
        due.about("12: 1 RUNS that were not REFUSED");
        LedgerShares x = two();
        due.is("none", x.count(1), 0);
        x.run(0, 1, 1, 1);
        due.is("one of no calls", x.count(1), 1);
        x.run(2, 16, 1, 1);
        due.is("two", x.count(1), 2);
        x.run(3, 1, 1, 1);
        due.is("a wrong one is none", x.count(1), 2);
        x.same(1, 1, 1, 1);
        due.is("same() is none", x.count(1), 2);
        refuse(x);
        due.is("a refused one is none", x.count(1), 2);
        for (int run = 3; run <= 203; run++) {
            x.run(0, 1, 1, 1);
        }
        due.is("many", x.count(1), 203);
    }

    private static void countRefused() {
        due.about("12: 2 those that were (by run() alone)");
        LedgerShares x = two();
        due.is("none", x.count(2), 0);
        x.run(2, 1, 1, 1);
        due.is("one that went through is none", x.count(2), 0);
        refuse(x);
        due.is("one", x.count(2), 1);
        due.is("same() would be refused", x.same(1, 1, 1, 1), false);
        due.is("same() is none", x.count(2), 1);
        x.run(2, 0, 1, 1);
        due.is("a wrong one is none", x.count(2), 1);
        for (int run = 2; run <= 200; run++) {
            x.run(2, 1, 1, 1);
        }
        due.is("many", x.count(2), 200);
        due.is("those that went through", x.count(1), 1);
    }
}
