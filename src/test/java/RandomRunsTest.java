import java.util.ArrayList;
import java.util.Arrays;
import java.util.List;
import java.util.Random;
import java.util.TreeMap;

/** Runs of 512 calls on the class and on the model side by side; every answer has to be the same. */
public final class RandomRunsTest {
    private static final int RUNS = 3000;
    private static final int CALLS = 512;

    private final Random random;
    private final Subject real = new Real();
    private final Subject model = new Model();
    private final StringBuilder log = new StringBuilder();
    private final TreeMap<String, Integer> seen;
    private int begun;

    // Each run has habits of its own: what is rare in one is usual in another.
    private final int hotKeys;
    private final int ticks;
    private final int ranks;
    private final int downs;
    private final int begins;
    private final int reads;

    private RandomRunsTest(long seed, TreeMap<String, Integer> seen) {
        random = new Random(seed);
        this.seen = seen;
        hotKeys = 1 + random.nextInt(8);
        ticks = 1 + random.nextInt(12);
        ranks = 1 + random.nextInt(4);
        downs = 1 + random.nextInt(12);
        begins = 2 + random.nextInt(8);
        reads = 10 + random.nextInt(80);
    }

    private boolean isSame(String name, int... arguments) {
        String want = Probe.answerOf(model, name, arguments);
        String got = Probe.answerOf(real, name, arguments);
        log.append(name).append(Arrays.toString(arguments)).append(" = ").append(got).append('\n');
        boolean isShort = want.length() == 3 && want.startsWith("-1") || want.endsWith("Exception") || name.equals("judged");
        seen.merge(name + " " + (isShort ? want : "value"), 1, Integer::sum);
        if (name.equals("begin") && got.length() < 3) begun++;
        if (!want.equals(got)) {
            log.append("  due is ").append(want).append('\n');
            return false;
        }
        return true;
    }

    /** Mostly inside the bounds, now and then just outside. */
    private int within(int low, int high) {
        return random.nextInt(60) == 0 ? (random.nextBoolean() ? low - 1 : high + 1) : low + random.nextInt(high - low + 1);
    }

    private int someKey() {
        return random.nextInt(12) == 0 ? within(0, 31) : 7 + random.nextInt(hotKeys);
    }

    private List<Integer> pending() {
        List<Integer> all = new ArrayList<>();
        for (int t = 0; t < begun; t++) if (model.call("told", t, 0) == 0) all.add(t);
        return all;
    }

    /** Mostly one that is PENDING, as those are that can go on. */
    private int someTransaction(List<Integer> pending) {
        if (random.nextInt(150) == 0) return within(0, begun);
        if (pending.isEmpty() || random.nextInt(25) == 0) return random.nextInt(begun + 1);
        return pending.get(random.nextInt(pending.size()));
    }

    private boolean step() {
        List<Integer> pending = pending();
        if (pending.size() < random.nextInt(begins) && random.nextInt(3) > 0) {
            return isSame("begin", within(0, 3), random.nextInt(20) == 0 ? within(0, 9) : random.nextInt(ranks));
        }
        int t = someTransaction(pending);
        int kind = random.nextInt(100);
        if (kind < 60) return random.nextInt(100) < reads ? isSame("get", t, someKey()) : isSame("put", t, someKey(), someValue());
        if (kind < 70) return random.nextInt(2) == 0 ? isSame("commit", t, random.nextInt(2)) : isSame("beat", t);
        if (kind < 76) return isSame("beat", t);
        if (kind < 83) return isSame("pass", random.nextInt(10) == 0 ? within(1, 50) : 1 + random.nextInt(ticks));
        return rareStep(t, kind);
    }

    private boolean rareStep(int t, int kind) {
        switch (kind) {
            case 83: case 84: return isSame("skew", within(0, 3), within(-5, 5));
            case 85: return isSame("clock", within(0, 3));
            case 86: return random.nextInt(downs) != 0 || isSame("down", within(0, 3));
            case 87: case 88: return isSame("up", within(0, 3));
            case 89: return isSame("sync", within(0, 3));
            case 90: return isSame("split", random.nextInt(4) == 0 ? within(1, 31) : 7 + random.nextInt(hotKeys));
            case 91: return isSame("merge", within(0, 3));
            case 92: case 93: return isSame("move", within(0, 4), within(0, 3));
            case 94: return random.nextInt(3) != 0 || isSame("abort", t);
            case 95: return isSame("recover", t);
            case 96: return isSame("recover", random.nextInt(Math.max(1, begun)));
            case 97: return isSame("asOf", someKey(), random.nextInt(1 + answerClosed()));
            case 98: return isSame("asOf", someKey(), answerClosed() + random.nextInt(2));
            default: return isSame("commit", t, 1);
        }
    }

    private int someValue() {
        return random.nextInt(5) == 0 ? within(0, 1000) : random.nextInt(1000);
    }

    private int answerClosed() {
        return model.call("closed");
    }

    /** All that can be asked: nothing may be changed by it, and nothing may differ. */
    private boolean isAllSame() {
        boolean same = isSame("closed") && isSame("resolved") && isSame("judged");
        for (int t = 0; t <= begun && same; t++) for (int what = -1; what < 8; what++) same &= isSame("told", t, what);
        for (int k = -1; k < 33 && same; k++) for (int what = -1; what < 8; what++) same &= isSame("key", k, what);
        for (int place = -1; place < 50 && same; place++) same &= isSame("feed", place) && isSame("order", place);
        for (int k = 0; k < 32 && same; k++) same &= isSame("asOf", k, random.nextInt(1 + answerClosed()));
        return same;
    }

    private boolean run() {
        for (int call = 0; call < CALLS; call++) {
            int before = log.length();
            if (!step()) return false;
            int after = log.length();
            if (!areQuestionsSame()) return false;
            log.setLength(after);
            if (before == after) call--;
        }
        return isAllSame();
    }

    private boolean areQuestionsSame() {
        boolean same = isSame("resolved") && isSame("judged") && isSame("order", begun / 2) && isSame("feed", begun / 3);
        for (int t = Math.max(0, begun - 6); t < begun && same; t++) for (int what = 0; what < 7; what++) same &= isSame("told", t, what);
        for (int k = 6; k < 12 && same; k++) for (int what = 0; what < 7; what++) same &= isSame("key", k, what);
        return same;
    }

    public static void main(String[] arguments) {
        TreeMap<String, Integer> seen = new TreeMap<>();
        int runs = arguments.length > 0 ? Integer.parseInt(arguments[0]) : RUNS;
        for (long seed = 0; seed < runs; seed++) {
            RandomRunsTest test = new RandomRunsTest(seed, seen);
            if (!test.run()) {
                System.out.println("seed " + seed + ":\n" + test.log);
                System.exit(1);
            }
        }
        if (arguments.length > 0) System.out.println(seen);
        System.out.println("RandomRunsTest: " + runs + " runs are as due");
    }
}
