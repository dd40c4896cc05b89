import java.util.Arrays;
import java.util.Random;
import java.util.TreeMap;

/** Runs of 512 calls on the class and on the model side by side; every answer has to be the same. */
public final class RandomRunsTest {
    private static final int RUNS = 3000;
    private static final int CALLS = 512;

    private final Random random;
    private final Subject real = new Real();
    private final Subject model = new Model();
    private final StringBuilder log = new StringBuilder();
    private final TreeMap<String, Integer> seen;
    private int begun;

    private RandomRunsTest(long seed, TreeMap<String, Integer> seen) {
        random = new Random(seed);
        this.seen = seen;
    }

    static String answerOf(Subject subject, String name, int... arguments) {
        try {
            return Integer.toString(subject.call(name, arguments));
        } catch (RuntimeException e) {
            return e.getClass().getSimpleName();
        }
    }

    private boolean isSame(String name, int... arguments) {
        String want = answerOf(model, name, arguments);
        String got = answerOf(real, name, arguments);
        log.append(name).append(Arrays.toString(arguments)).append(" = ").append(got).append('\n');
        boolean isShort = want.length() == 3 && want.startsWith("-1") || want.endsWith("Exception") || name.equals("judged");
        seen.merge(name + " " + (isShort ? want : "value"), 1, Integer::sum);
        if (name.equals("begin") && got.length() < 3) begun++;
        if (!want.equals(got)) {
            log.append("  due is ").append(want).append('\n');
            return false;
        }
        return true;
    }

    /** Mostly inside the bounds, now and then just outside. */
    private int within(int low, int high) {
        return random.nextInt(60) == 0 ? (random.nextBoolean() ? low - 1 : high + 1) : low + random.nextInt(high - low + 1);
    }

    private int someKey() {
        return random.nextInt(8) == 0 ? within(0, 31) : 7 + random.nextInt(4);
    }

    private int someTransaction() {
        int back = random.nextInt(10) == 0 ? 40 : 5;
        return random.nextInt(100) == 0 ? within(0, begun) : Math.max(0, begun - 1 - random.nextInt(back));
    }

    private boolean step() {
        int t = someTransaction();
        switch (random.nextInt(48)) {
            case 0: return isSame("pass", random.nextInt(3) == 0 ? within(1, 50) : 1 + random.nextInt(6));
            case 1: return isSame("skew", within(0, 3), within(-5, 5));
            case 2: return isSame("clock", within(0, 3));
            case 3: return random.nextInt(3) != 0 || isSame("down", within(0, 3));
            case 4: case 5: return isSame("up", within(0, 3));
            case 6: return isSame("sync", within(0, 3));
            case 7: return isSame("split", random.nextBoolean() ? someKey() : within(1, 31));
            case 8: return isSame("merge", within(0, 3));
            case 9: return isSame("move", within(0, 4), within(0, 3));
            case 10: case 11: case 12: return isSame("begin", within(0, 3), random.nextInt(20) == 0 ? within(0, 9) : random.nextInt(3));
            case 13: case 14: case 15: return isSame("commit", t, random.nextInt(2));
            case 16: return random.nextInt(2) == 0 || isSame("abort", t);
            case 17: return random.nextInt(2) == 0 || isSame("recover", t);
            case 18: return isSame("beat", t);
            case 19: return isSame("asOf", someKey(), random.nextInt(1 + answerClosed()));
            case 20: return isSame("asOf", someKey(), answerClosed() + random.nextInt(2));
            case 21: case 22: case 23: case 24: case 25: case 26: case 27: case 28: case 29: case 30: case 31: case 32:
                return isSame("put", t, someKey(), random.nextInt(5) == 0 ? within(0, 1000) : random.nextInt(999));
            default: return isSame("get", t, someKey());
        }
    }

    private int answerClosed() {
        return model.call("closed");
    }

    /** All that can be asked: nothing may be changed by it, and nothing may differ. */
    private boolean isAllSame() {
        boolean same = isSame("closed") && isSame("resolved") && isSame("judged");
        for (int t = 0; t <= begun && same; t++) for (int what = -1; what < 8; what++) same &= isSame("told", t, what);
        for (int k = -1; k < 33 && same; k++) for (int what = -1; what < 8; what++) same &= isSame("key", k, what);
        for (int place = -1; place < 50 && same; place++) same &= isSame("feed", place) && isSame("order", place);
        for (int k = 0; k < 32 && same; k++) same &= isSame("asOf", k, random.nextInt(1 + answerClosed()));
        return same;
    }

    private boolean run() {
        for (int call = 0; call < CALLS; call++) {
            int before = log.length();
            if (!step()) return false;
            int after = log.length();
            if (!areQuestionsSame()) return false;
            log.setLength(after);
            if (before == after) call--;
        }
        return isAllSame();
    }

    private boolean areQuestionsSame() {
        boolean same = isSame("resolved") && isSame("judged") && isSame("order", begun / 2) && isSame("feed", begun / 3);
        for (int t = Math.max(0, begun - 6); t < begun && same; t++) for (int what = 0; what < 7; what++) same &= isSame("told", t, what);
        for (int k = 6; k < 12 && same; k++) for (int what = 0; what < 7; what++) same &= isSame("key", k, what);
        return same;
    }

    public static void main(String[] arguments) {
        TreeMap<String, Integer> seen = new TreeMap<>();
        int runs = arguments.length > 0 ? Integer.parseInt(arguments[0]) : RUNS;
        for (long seed = 0; seed < runs; seed++) {
            RandomRunsTest test = new RandomRunsTest(seed, seen);
            if (!test.run()) {
                System.out.println("seed " + seed + ":\n" + test.log);
                System.exit(1);
            }
        }
        if (arguments.length > 0) System.out.println(seen);
        System.out.println("RandomRunsTest: " + runs + " runs are as due");
    }
}
