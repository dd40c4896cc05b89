import java.util.Random;
import java.util.Set;

/**
 * A call that throws changes nothing, and no question does, in whatever state: an object that has been asked and
 * called wrongly all the time ends as one that was not. So does a call that is answered ENDED or DOWN at once.
 */
public final class RefusedCallsTest {
    private static final int RUNS = 1500;
    private static final int CALLS = 400;
    private static final Set<String> ON_TRANSACTIONS = Set.of("get", "put", "commit", "abort", "beat");
    private static final String[] CALLED = {"pass", "skew", "clock", "closed", "down", "up", "up", "sync", "split", "merge", "move", "begin", "begin",
        "get", "get", "get", "get", "put", "put", "put", "put", "commit", "commit", "abort", "recover", "beat",
        "told", "key", "asOf", "resolved", "feed", "order", "judged"};

    private final Random random;
    private final Real all = new Real();
    private final Real some = new Real();
    private int refused;

    private RefusedCallsTest(long seed) {
        random = new Random(seed);
    }

    /** Now and then just outside of the bounds, or far outside. */
    private int within(int low, int high) {
        int kind = random.nextInt(16);
        if (kind == 0) return low - 1;
        if (kind == 1) return high + 1;
        if (kind == 2) return random.nextInt();
        return low + random.nextInt(high - low + 1);
    }

    private int[] argumentsOf(String name) {
        switch (name) {
            case "pass": return new int[] {within(1, random.nextInt(4) == 0 ? 50 : 3)};
            case "skew": return new int[] {within(0, 3), within(-5, 5)};
            case "split": return new int[] {within(1, 31)};
            case "merge": return new int[] {within(0, 3)};
            case "move": return new int[] {within(0, 3), within(0, 3)};
            case "begin": return new int[] {within(0, 3), within(0, 9)};
            case "get": return new int[] {within(0, 39), within(0, 5)};
            case "put": return new int[] {within(0, 39), within(0, 5), within(0, 1000)};
            case "commit": return new int[] {within(0, 39), random.nextInt(2)};
            case "told": return new int[] {within(0, 39), within(0, 6)};
            case "key": return new int[] {within(0, 31), within(0, 6)};
            case "asOf": return new int[] {within(0, 31), within(0, all.call("closed"))};
            case "feed": case "order": return new int[] {within(0, 20)};
            case "closed": case "resolved": case "judged": return new int[0];
            default: return new int[] {within(0, name.equals("abort") || name.equals("recover") || name.equals("beat") ? 39 : 3)};
        }
    }

    /** Whether the answer says that nothing was changed; PENDING is what it was before the call. */
    private boolean changedNothing(String name, String answer, boolean wasPending) {
        if (answer.endsWith("Exception") || Probe.QUESTIONS.contains(name)) return true;
        if (!ON_TRANSACTIONS.contains(name)) return false;
        return answer.equals("-14") || answer.equals("-13") && !wasPending;
    }

    private boolean isFine() {
        for (int i = 0; i < CALLS; i++) {
            String name = CALLED[random.nextInt(CALLED.length)];
            int[] arguments = argumentsOf(name);
            boolean wasPending = ON_TRANSACTIONS.contains(name) && Probe.answerOf(all, "told", arguments[0], 0).equals("0");
            String answer = Probe.answerOf(all, name, arguments);
            if (changedNothing(name, answer, wasPending)) {
                refused++;
            } else if (!Probe.answerOf(some, name, arguments).equals(answer)) {
                return false;
            }
        }
        return Probe.endOf(all).equals(Probe.endOf(some));
    }

    public static void main(String[] arguments) {
        int wrong = 0;
        int refused = 0;
        for (long seed = 0; seed < RUNS; seed++) {
            RefusedCallsTest test = new RefusedCallsTest(seed);
            if (!test.isFine()) {
                wrong++;
                System.out.println("the run " + seed + " ends otherwise without what is refused");
            }
            refused += test.refused;
        }
        System.out.println("RefusedCallsTest: " + refused + " calls left out, " + wrong + " runs are wrong");
        System.exit(wrong == 0 && refused > 0 ? 0 : 1);
    }
}
