import java.util.Set;

/** How an object stands: all that can be asked, then what it answers to calls that go on from there. */
final class Probe {
    static final Set<String> QUESTIONS = Set.of("closed", "told", "key", "asOf", "resolved", "feed", "order", "judged");

    private static final int TRANSACTIONS = 40;
    private static final int KEYS = 32;
    private static final int NODES = 4;

    private final Subject subject;
    private final StringBuilder answers = new StringBuilder();

    private Probe(Subject subject) {
        this.subject = subject;
    }

    static String answerOf(Subject subject, String name, int... arguments) {
        try {
            return Integer.toString(subject.call(name, arguments));
        } catch (RuntimeException e) {
            return e.getClass().getSimpleName();
        }
    }

    /** The object can't be used for anything else behind this. */
    static String endOf(Subject subject) {
        Probe probe = new Probe(subject);
        probe.askAll();
        probe.goOn();
        probe.askAll();
        return probe.answers.toString();
    }

    private void note(String name, int... arguments) {
        answers.append(answerOf(subject, name, arguments)).append(' ');
    }

    private void askAll() {
        for (String name : new String[] {"closed", "resolved", "judged"}) note(name);
        for (int t = 0; t < TRANSACTIONS; t++) for (int what = 0; what < 7; what++) note("told", t, what);
        for (int key = 0; key < KEYS; key++) {
            for (int what = 0; what < 7; what++) note("key", key, what);
            note("asOf", key, 0);
            note("asOf", key, subject.call("closed"));
        }
        for (int place = 0; place <= TRANSACTIONS; place++) note("order", place);
        for (int place = 0; place < 100; place++) note("feed", place);
    }

    /** What can't be asked shows in what comes next: clocks, doubts, waits, and the greatest stamps met. */
    private void goOn() {
        for (int node = 0; node < NODES; node++) {
            note("clock", node);
            note("up", node);
        }
        for (int t = 0; t < TRANSACTIONS; t++) for (int key = 0; key < KEYS; key += 5) note("get", t, key);
        for (int t = 0; t < TRANSACTIONS; t++) note("put", t, t % KEYS, t);
        for (int t = 0; t < TRANSACTIONS; t++) note("commit", t, t % 2);
        for (int node = 0; node < NODES; node++) note("begin", node, 1);
        note("pass", 1);
        note("merge", 0);
    }
}
