import java.lang.reflect.Field;

/**
 * The two boundary cases of "Terms" for which numbers are written into the object's rows: AMOUNTS that
 * wrap, which no calls by the face can reach (40 CALLS bring one to 1000000 * (2^40 - 1) at most), and
 * a 30001st TICK, for which no calls are known (40 CALLS of 9 STEPS, each an ADD of one KEY, took 7443
 * at most in 200000 RUNS of 16 WORKERS).
 */
public final class InnerBoundsTest {
    private static final int PUT = 0, ADD = 1, PAY = 2, WANT = 3, MEET = 5;
    private static final int BAD = -2, STATE = -3, REFUSED = -5;
    private static final int WORKED = 1, FAILED = 2;
    private static final int LOW = Integer.MIN_VALUE, HIGH = Integer.MAX_VALUE;
    private static final Due due = new Due();

    public static void main(String[] args) throws ReflectiveOperationException {
        wrapsAtTheMost();
        wrapsAtTheLeast();
        last30000Ticks();
        refusedAtTick30001();
        refusedWithManyWorkers();
        sameIsFalseAtTick30001();
        due.end();
    }

    /** Writes into a row of the object's book, behind the tests of call(). */
    private static void write(LedgerShares x, String row, int call, int number) throws ReflectiveOperationException {
        Field bookOfIt = LedgerShares.class.getDeclaredField("book");
        bookOfIt.setAccessible(true);
        Object book = bookOfIt.get(x);
        Field rowOfIt = book.getClass().getDeclaredField(row);
        rowOfIt.setAccessible(true);
        ((int[]) rowOfIt.get(book))[call] = number;
    }

    /** KEY 0 is c times 2 to the 32 plus what 32 times doubling adds of more. */
    private static LedgerShares doubled(int c, int more) throws ReflectiveOperationException {
        LedgerShares x = new LedgerShares();
        x.call(PUT, 0, 0, 0, 1);
        write(x, "cs", 0, c);
        for (int number = 1; number <= 32; number++) {
            x.call(ADD, 0, 0, more, 1);
        }
        return x;
    }

    private static void wrapsAtTheMost() throws ReflectiveOperationException {
        due.about("AMOUNTS (longs that wrap): beyond the most");
        LedgerShares x = doubled(HIGH, 1);
        x.call(PUT, 1, 1, 1, 1);
        x.call(PAY, 1, 0, 1, 1);
        x.call(WANT, 0, 0, 1, 1);
        x.call(PAY, 0, 2, 1, 1);
        x.call(MEET, 0, 2, 1, 1);
        x.call(ADD, 0, 0, 3, 1);
        x.run(39, 3, 1, 40);
        due.is("the most", x.behind(33, 0), Long.MAX_VALUE);
        due.is("paid 1 more", x.behind(35, 0), Long.MIN_VALUE);
        due.is("is below 1", x.outcome(35), FAILED);
        due.is("can't pay 1", x.outcome(36), FAILED);
        due.is("is not 0", x.outcome(37), FAILED);
        due.is("twice the least, and 3", x.amount(0), 3);
    }

    private static void wrapsAtTheLeast() throws ReflectiveOperationException {
        due.about("AMOUNTS (longs that wrap): beyond the least");
        LedgerShares x = doubled(LOW, 0);
        x.call(ADD, 1, 0, -1, 1);
        x.call(WANT, 0, 0, 1000000, 1);
        x.call(ADD, 0, 0, 0, 1);
        x.run(36, 3, 1, 40);
        due.is("the least", x.behind(33, 0), Long.MIN_VALUE);
        due.is("1 less", x.behind(34, 0), Long.MAX_VALUE);
        due.is("is not below 1000000", x.outcome(34), WORKED);
        due.is("twice the most", x.amount(0), -2);
    }

    /** One CALL whose STEPS and BEGIN take so many TICKS with one WORKER. */
    private static LedgerShares taking(int ticks) throws ReflectiveOperationException {
        LedgerShares x = new LedgerShares();
        x.call(PUT, 0, 0, 5, 1);
        write(x, "steps", 0, ticks - 1);
        return x;
    }

    private static void last30000Ticks() throws ReflectiveOperationException {
        due.about("if a 30001st TICK would come: 30000 of them are not too many");
        LedgerShares x = taking(30000);
        due.is("run", x.run(1, 1, 1, 40), 30000);
        due.told("30000", x, 1, 30000, 1, 0, 0, 1, 0, 0);
        due.of("30000", x, 0, 1, 1, 30000, 0);
        due.is("amount", x.amount(0), 5);
        due.is("none refused", x.count(2), 0);
        due.is("29999", taking(29999).run(1, 1, 1, 40), 29999);
    }

    private static void refusedAtTick30001() throws ReflectiveOperationException {
        due.about("so it is if a 30001st TICK would come. Then all is as it was ahead of it");
        LedgerShares x = taking(30001);
        due.is("run", x.run(1, 1, 1, 40), REFUSED);
        due.is("it is counted", x.count(2), 1);
        due.is("it is not done", x.count(1), 0);
        due.is("no run", x.told(1), STATE);
        due.is("amount", x.amount(0), 0);
        due.is("outcome", x.outcome(0), 0);
        due.is("a run of no calls", x.run(0, 1, 1, 40), 0);
        due.is("once more", x.run(1, 1, 1, 40), REFUSED);
        due.told("as it was", x, 0, 0, 0, 0, 0, 0, 0, 0);
        due.is("behind as it was", x.behind(1, 0), BAD);
        write(x, "steps", 0, 1);
        due.is("with one step", x.run(1, 1, 1, 40), 2);
        due.told("nothing of the refused one is in it", x, 1, 2, 1, 0, 0, 1, 0, 0);
    }

    private static void refusedWithManyWorkers() throws ReflectiveOperationException {
        due.about("so it is if a 30001st TICK would come, with 16 WORKERS");
        LedgerShares x = taking(30001);
        x.call(PUT, 1, 1, 5, 1);
        due.is("run", x.run(2, 16, 1, 40), REFUSED);
        due.is("outcome of one that had ended", x.outcome(1), 0);
        due.is("amount of one that had ended", x.amount(1), 0);
    }

    private static void sameIsFalseAtTick30001() throws ReflectiveOperationException {
        due.about("11: false if one would be REFUSED, for its TICKS");
        due.is("30000", taking(30000).same(1, 1, 1, 2), true);
        due.is("30001", taking(30001).same(1, 1, 1, 2), false);
    }
}
