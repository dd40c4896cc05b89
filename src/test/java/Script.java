import java.util.ArrayList;
import java.util.List;
import java.util.Map;
import java.util.function.Predicate;

/**
 * Plays calls written as text on a new object, and on a new model, and counts the answers that are not due.
 *
 * A line holds calls with semicolons between them. A call is its name and its arguments, then '=' and the
 * answer that is due, or '!' and the exception that is due (Index, Argument or State), or nothing if any
 * answer will do. 'repeat 3 clock 0' makes one call three times. Names of constants stand for their numbers,
 * 'plain' and 'staged' for the argument of commit.
 *
 * Each script is played once more without the calls that are refused, and once more without the questions:
 * both times the object has to end as it did with them, since neither changes anything.
 */
final class Script {
    private static final Map<String, Integer> WORDS = Map.ofEntries(
        Map.entry("NONE", -1), Map.entry("SEVERAL", -2), Map.entry("GONE", 1000),
        Map.entry("DONE", 0), Map.entry("WAITS", -11), Map.entry("RESTART", -12),
        Map.entry("ENDED", -13), Map.entry("DOWN", -14),
        Map.entry("PENDING", 0), Map.entry("STAGED", 1), Map.entry("COMMITTED", 2), Map.entry("ABORTED", 3),
        Map.entry("plain", 0), Map.entry("staged", 1));
    private static final Map<String, String> EXCEPTIONS = Map.of(
        "Index", "IndexOutOfBoundsException",
        "Argument", "IllegalArgumentException",
        "State", "IllegalStateException");
    // What later calls answer is free.
    private static final int MOST_CALLS = 512;

    private static int wrong;
    private static int played;

    private Script() {
    }

    /** One call as it is written; due is null if any answer will do. */
    private static final class Call {
        final String text;
        final String name;
        final int times;
        final int[] arguments;
        final String due;
        final boolean isRefused;

        Call(String text) {
            String[] words = text.split(" +");
            int first = words[0].equals("repeat") ? 2 : 0;
            int end = first + 1;
            while (end < words.length && !words[end].equals("=") && !words[end].equals("!")) end++;
            this.text = text;
            name = words[first];
            times = first == 2 ? number(words[1]) : 1;
            arguments = new int[end - first - 1];
            for (int i = 0; i < arguments.length; i++) arguments[i] = number(words[first + 1 + i]);
            isRefused = end < words.length && words[end].equals("!");
            due = end < words.length ? answerDue(words[end + 1]) : null;
        }

        private String answerDue(String word) {
            if (!isRefused) return Integer.toString(number(word));
            if (!EXCEPTIONS.containsKey(word)) throw new AssertionError("no exception " + word);
            return EXCEPTIONS.get(word);
        }
    }

    static void play(String title, String... lines) {
        List<Call> calls = new ArrayList<>();
        int count = 0;
        for (String line : lines) {
            for (String text : line.split(";")) {
                calls.add(new Call(text.trim()));
                count += calls.get(calls.size() - 1).times;
            }
        }
        if (count > MOST_CALLS) throw new AssertionError("too many calls, " + count + ": " + title);
        playOn(new Model(), "the model, " + title, calls);
        String end = playOn(new Real(), "the class, " + title, calls);
        playWithout("refused calls", c -> c.isRefused, end, title, calls);
        playWithout("questions", c -> Probe.QUESTIONS.contains(c.name), end, title, calls);
        played++;
    }

    /** Counts what is not so as an answer that is not due. */
    static void due(String what, boolean isSo) {
        if (isSo) return;
        wrong++;
        System.out.println("not so: " + what);
    }

    /** Ends the program, with 1 if an answer was not due. */
    static void end(String name) {
        System.out.println(name + ": " + played + " scripts, " + wrong + " answers not due");
        System.exit(wrong == 0 ? 0 : 1);
    }

    private static void playWithout(String what, Predicate<Call> isLeftOut, String end, String title, List<Call> calls) {
        List<Call> others = new ArrayList<>(calls);
        if (!others.removeIf(isLeftOut)) return;
        if (!playOn(new Real(), "the class without " + what + ", " + title, others).equals(end)) {
            wrong++;
            System.out.println(title + ": ends otherwise without " + what);
        }
    }

    private static String playOn(Subject subject, String where, List<Call> calls) {
        for (Call call : calls) {
            for (int i = 0; i < call.times; i++) {
                String got = Probe.answerOf(subject, call.name, call.arguments);
                if (call.due != null && !call.due.equals(got)) {
                    wrong++;
                    System.out.println(where + ": '" + call.text + "' answered " + got);
                }
            }
        }
        return Probe.endOf(subject);
    }

    private static int number(String word) {
        return WORDS.containsKey(word) ? WORDS.get(word) : Integer.parseInt(word);
    }
}
