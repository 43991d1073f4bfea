import java.util.ArrayList;
import java.util.List;
import java.util.Random;
import java.util.TreeMap;

/**
 * Many objects, each asked for some hundred calls by chance (of a fixed source), wrong ones among
 * them; each answer is compared with that of a model that follows the document word by word.
 * The model takes AMOUNTS and OUTCOMES from one worker, call by call, and only the rest from TICKS.
 */
public final class ModelTest {
    private static final Due due = new Due();

    public static void main(String[] args) {
        for (int object = 0; object < 300 && !due.hasManyWrong(); object++) {
            ask(object);
        }
        due.end();
    }

    private static void ask(int object) {
        Random chance = new Random(object);
        LedgerShares x = new LedgerShares();
        Model model = new Model();
        int keys = 1 + chance.nextInt(8);
        int firstCalls = chance.nextInt(41);
        boolean withGone = chance.nextInt(3) == 0;
        for (int asked = 0; asked < 512 && !due.hasManyWrong(); asked++) {
            int kind = asked < firstCalls ? 0 : chance.nextInt(40);
            String row = "object " + object + ", row " + asked;
            if (kind <= 3) {
                askCall(row, chance, keys, x, model);
            } else if (kind == 4 && chance.nextInt(6) == 0) {
                due.is(row + ": clear()", x.clear(), model.clear());
            } else if (kind <= 6 && withGone) {
                int worker = near(chance, 0, 15), n = chance.nextInt(3) == 0 ? near(chance, 0, 99) : chance.nextInt(5);
                due.is(row + ": gone(" + worker + ", " + n + ")", x.gone(worker, n), model.gone(worker, n));
            } else if (kind <= 10) {
                askRun(row, chance, x, model);
            } else if (kind == 11) {
                askSame(row, chance, x, model);
            } else {
                askState(row, chance, x, model);
            }
        }
    }

    private static int near(Random chance, int least, int most) {
        int odd = chance.nextInt(60);
        return odd == 0 ? least - 1 : odd == 1 ? most + 1 : least + chance.nextInt(most - least + 1);
    }

    private static void askCall(String row, Random chance, int keys, LedgerShares x, Model model) {
        int op = near(chance, 0, 5), a = near(chance, 0, keys - 1), b = near(chance, 0, keys - 1);
        int c = chance.nextInt(5) == 0 ? near(chance, -1000000, 1000000) : chance.nextInt(8) - 1;
        int steps = near(chance, 1, 9);
        String call = row + ": call(" + op + ", " + a + ", " + b + ", " + c + ", " + steps + ")";
        due.is(call, x.call(op, a, b, c, steps), model.call(op, a, b, c, steps));
    }

    private static void askRun(String row, Random chance, LedgerShares x, Model model) {
        int calls = near(chance, 0, model.calls.size()), workers = near(chance, 1, 16);
        if (chance.nextInt(3) > 0) {
            calls = model.calls.size();
        }
        int seed = chance.nextInt(), room = near(chance, 1, chance.nextBoolean() ? 40 : 4);
        String call = row + ": run(" + calls + ", " + workers + ", " + seed + ", " + room + ")";
        due.is(call, x.run(calls, workers, seed, room), model.run(calls, workers, seed, room));
        lookAtAll(call, x, model);
    }

    private static void askSame(String row, Random chance, LedgerShares x, Model model) {
        int workers = near(chance, 1, 16), others = near(chance, 1, 16);
        int seed = chance.nextInt(), otherSeed = chance.nextInt();
        String call = row + ": same(" + workers + ", " + seed + ", " + others + ", " + otherSeed + ")";
        due.is(call, x.same(workers, seed, others, otherSeed), model.same(workers, seed, others, otherSeed));
    }

    private static void askState(String row, Random chance, LedgerShares x, Model model) {
        int n = chance.nextInt(46) - 2, key = chance.nextInt(10) - 1, what = chance.nextInt(10) - 1;
        due.is(row + ": amount(" + key + ")", x.amount(key), model.amount(key));
        due.is(row + ": behind(" + n + ", " + key + ")", x.behind(n, key), model.behind(n, key));
        due.is(row + ": outcome(" + n + ")", x.outcome(n), model.outcome(n));
        due.is(row + ": of(" + n + ", " + what + ")", x.of(n, what), model.of(n, what));
        due.is(row + ": told(" + what + ")", x.told(what), model.told(what));
        due.is(row + ": count(" + what + ")", x.count(what), model.count(what));
    }

    private static void lookAtAll(String row, LedgerShares x, Model model) {
        for (int what = 0; what < 8; what++) {
            due.is(row + ": told(" + what + ")", x.told(what), model.told(what));
            due.is(row + ": amount(" + what + ")", x.amount(what), model.amount(what));
        }
        for (int call = 0; call < model.calls.size(); call++) {
            due.is(row + ": outcome(" + call + ")", x.outcome(call), model.outcome(call));
            for (int what = 0; what < 4; what++) {
                due.is(row + ": of(" + call + ", " + what + ")", x.of(call, what), model.of(call, what));
            }
            for (int key = 0; key < 8; key++) {
                due.is(row + ": behind(" + call + ", " + key + ")", x.behind(call, key), model.behind(call, key));
            }
        }
    }

    private record Call(int op, int a, int b, int c, int steps) {
        /** What it changes, by KEY; null if it FAILS. */
        TreeMap<Integer, Long> worked(long x, long y) {
            TreeMap<Integer, Long> changed = new TreeMap<>();
            boolean works = true;
            if (op == 0) {
                changed.put(b, (long) c);
            } else if (op == 1) {
                changed.put(b, y + x + c);
            } else if (op == 2) {
                works = x >= c && c >= 0;
                if (a != b) {
                    changed.put(a, x - c);
                    changed.put(b, y + c);
                }
            } else if (op == 3) {
                works = x >= c;
            } else if (op == 4) {
                changed.put(a, y);
                changed.put(b, x);
            } else {
                works = x == y;
                changed.put(b, (long) c);
            }
            return works ? changed : null;
        }
    }

    private static final class Part {
        final Call call;
        String stage = "OPEN";
        long x, y;
        int done, begun, first = -1, kept = -1, by = -1;
        TreeMap<Integer, Long> changed = new TreeMap<>();

        Part(Call call) {
            this.call = call;
        }
    }

    private static final class Worker {
        final int number;
        int begins;
        Part part;

        Worker(int number) {
            this.number = number;
        }
    }

    /** What a RUN left. */
    private static final class Left {
        final List<Part> parts = new ArrayList<>();
        final List<long[]> amounts = new ArrayList<>();
        final List<Integer> outcomes = new ArrayList<>();
        int ticks, begun, anew, gone, most, idle;
    }

    private static final class Model {
        final List<Call> calls = new ArrayList<>();
        final int[] goneAt = new int[16];
        Left left = null;
        int runs, refused;

        private static boolean in(int value, int least, int most) {
            return least <= value && value <= most;
        }

        int call(int op, int a, int b, int c, int steps) {
            if (!in(op, 0, 5) || !in(a, 0, 7) || !in(b, 0, 7) || !in(c, -1000000, 1000000) || !in(steps, 1, 9)) {
                return -2;
            }
            if (calls.size() == 40) {
                return -4;
            }
            calls.add(new Call(op, a, b, c, steps));
            return calls.size() - 1;
        }

        int clear() {
            int had = calls.size();
            calls.clear();
            left = null;
            runs = 0;
            refused = 0;
            return had;
        }

        int gone(int worker, int n) {
            if (!in(worker, 0, 15) || !in(n, 0, 99)) {
                return -2;
            }
            int before = goneAt[worker];
            goneAt[worker] = n;
            return before;
        }

        int run(int many, int workers, int seed, int room) {
            if (!in(many, 0, calls.size()) || !in(workers, 1, 16) || !in(room, 1, 40)) {
                return -2;
            }
            Left would = leave(many, workers, seed, room);
            if (would == null) {
                refused++;
                return -5;
            }
            left = would;
            runs++;
            return left.ticks;
        }

        boolean same(int workers, int seed, int others, int otherSeed) {
            if (!in(workers, 1, 16) || !in(others, 1, 16)) {
                return false;
            }
            // One worker, call by call, tells what any RUN leaves: only a refusal makes a difference.
            return leave(calls.size(), workers, seed, 40) != null && leave(calls.size(), others, otherSeed, 40) != null;
        }

        private Left leave(int many, int workers, int seed, int room) {
            Left l = new Left();
            for (Call call : calls.subList(0, many)) {
                l.parts.add(new Part(call));
            }
            List<Worker> crew = new ArrayList<>();
            for (int number = 0; number < workers; number++) {
                crew.add(new Worker(number));
            }
            int s = seed;
            while (firstNotKept(l) < many) {
                if (crew.isEmpty() || l.ticks == 30000) {
                    return null;
                }
                l.ticks++;
                s = (int) (s * 1103515245L + 12345L);
                Worker worker = crew.get((int) (((s & 0xffffffffL) / 65536L) % crew.size()));
                turn(l, crew, worker, room);
                settle(l);
                l.most = Math.max(l.most, (int) l.parts.stream().filter(p -> p.stage.equals("UNDER WAY")).count());
            }
            oneByOne(l);
            return l;
        }

        private static int firstNotKept(Left l) {
            int first = 0;
            while (first < l.parts.size() && l.parts.get(first).stage.equals("KEPT")) {
                first++;
            }
            return first;
        }

        private void turn(Left l, List<Worker> crew, Worker worker, int room) {
            Part part = worker.part;
            if (part != null) {
                part.done++;
                if (part.done == part.call.steps) {
                    TreeMap<Integer, Long> changed = part.call.worked(part.x, part.y);
                    part.changed = changed == null ? new TreeMap<>() : changed;
                    part.stage = "ENDED";
                    part.by = worker.number;
                    worker.part = null;
                }
                return;
            }
            int end = Math.min(l.parts.size(), firstNotKept(l) + room);
            for (int number = 0; number < end; number++) {
                if (l.parts.get(number).stage.equals("OPEN")) {
                    begin(l, crew, worker, number);
                    return;
                }
            }
            l.idle++;
        }

        private void begin(Left l, List<Worker> crew, Worker worker, int number) {
            Part part = l.parts.get(number);
            l.begun++;
            part.begun++;
            part.first = part.first == -1 ? l.ticks : part.first;
            worker.begins++;
            if (worker.begins == goneAt[worker.number]) {
                crew.remove(worker);
                l.gone++;
                return;
            }
            worker.part = part;
            part.stage = "UNDER WAY";
            part.done = 0;
            TreeMap<Integer, Long> now = standing(l, number);
            part.x = now.getOrDefault(part.call.a, 0L);
            part.y = now.getOrDefault(part.call.b, 0L);
        }

        private static TreeMap<Integer, Long> standing(Left l, int number) {
            TreeMap<Integer, Long> now = new TreeMap<>();
            for (Part before : l.parts.subList(0, number)) {
                if (before.stage.equals("ENDED") || before.stage.equals("KEPT")) {
                    now.putAll(before.changed);
                }
            }
            return now;
        }

        private static void settle(Left l) {
            for (int number = firstNotKept(l); number < l.parts.size(); number++) {
                Part part = l.parts.get(number);
                if (!part.stage.equals("ENDED")) {
                    return;
                }
                TreeMap<Integer, Long> now = standing(l, number);
                if (part.x != now.getOrDefault(part.call.a, 0L) || part.y != now.getOrDefault(part.call.b, 0L)) {
                    part.stage = "OPEN";
                    l.anew++;
                    return;
                }
                part.stage = "KEPT";
                part.kept = l.ticks;
            }
        }

        private static void oneByOne(Left l) {
            long[] amounts = new long[8];
            l.amounts.add(amounts.clone());
            for (Part part : l.parts) {
                TreeMap<Integer, Long> changed = part.call.worked(amounts[part.call.a], amounts[part.call.b]);
                l.outcomes.add(changed == null ? 2 : 1);
                if (changed != null) {
                    changed.forEach((key, amount) -> amounts[key] = amount);
                }
                l.amounts.add(amounts.clone());
            }
        }

        long amount(int key) {
            return left == null || !in(key, 0, 7) ? 0 : left.amounts.get(left.parts.size())[key];
        }

        long behind(int n, int key) {
            if (!in(key, 0, 7) || !in(n, 0, left == null ? 40 : left.parts.size())) {
                return -2;
            }
            return left == null ? -3 : left.amounts.get(n)[key];
        }

        int outcome(int call) {
            if (!in(call, 0, calls.size() - 1)) {
                return -2;
            }
            return left == null || call >= left.parts.size() ? 0 : left.outcomes.get(call);
        }

        int of(int call, int what) {
            if (!in(call, 0, calls.size() - 1) || !in(what, 0, 3)) {
                return -2;
            }
            if (left == null || call >= left.parts.size()) {
                return -1;
            }
            Part part = left.parts.get(call);
            return new int[] {part.begun, part.first, part.kept, part.by}[what];
        }

        int told(int what) {
            if (!in(what, 0, 7)) {
                return -2;
            }
            if (left == null) {
                return -3;
            }
            int failed = (int) left.outcomes.stream().filter(o -> o == 2).count();
            return new int[] {left.parts.size(), left.ticks, left.begun, left.anew, left.gone, left.most, left.idle,
                failed}[what];
        }

        int count(int what) {
            return in(what, 0, 2) ? new int[] {calls.size(), runs, refused}[what] : -2;
        }
    }
}
