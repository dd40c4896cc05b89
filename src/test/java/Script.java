import java.util.Map;

/**
 * Plays calls written as text on a new object, and on a new model, and counts the answers that are not due.
 *
 * A line holds calls with semicolons between them. A call is its name and its arguments, then '=' and the
 * answer that is due, or '!' and the exception that is due (Index, Argument or State), or nothing if any
 * answer will do. 'repeat 3 clock 0' makes one call three times. Names of constants stand for their numbers,
 * 'plain' and 'staged' for the argument of commit.
 */
final class Script {
    private static final Map<String, Integer> WORDS = Map.ofEntries(
        Map.entry("NONE", -1), Map.entry("SEVERAL", -2), Map.entry("GONE", 1000),
        Map.entry("DONE", 0), Map.entry("WAITS", -11), Map.entry("RESTART", -12),
        Map.entry("ENDED", -13), Map.entry("DOWN", -14),
        Map.entry("PENDING", 0), Map.entry("STAGED", 1), Map.entry("COMMITTED", 2), Map.entry("ABORTED", 3),
        Map.entry("plain", 0), Map.entry("staged", 1));
    private static final Map<String, String> EXCEPTIONS = Map.of(
        "Index", "IndexOutOfBoundsException",
        "Argument", "IllegalArgumentException",
        "State", "IllegalStateException");

    private static int wrong;
    private static int played;

    private Script() {
    }

    static void play(String title, String... lines) {
        playOn("the class", new Real(), title, lines);
        playOn("the model", new Model(), title, lines);
        played++;
    }

    /** Ends the program, with 1 if an answer was not due. */
    static void end(String name) {
        System.out.println(name + ": " + played + " scripts, " + wrong + " answers not due");
        System.exit(wrong == 0 ? 0 : 1);
    }

    private static void playOn(String who, Subject subject, String title, String[] lines) {
        for (String line : lines) {
            for (String call : line.split(";")) {
                playCall(who + ", " + title, subject, call.trim());
            }
        }
    }

    private static void playCall(String where, Subject subject, String call) {
        String[] words = call.split(" +");
        int first = words[0].equals("repeat") ? 2 : 0;
        int times = first == 2 ? number(words[1]) : 1;
        int end = first + 1;
        while (end < words.length && !words[end].equals("=") && !words[end].equals("!")) end++;
        int[] arguments = new int[end - first - 1];
        for (int i = 0; i < arguments.length; i++) arguments[i] = number(words[first + 1 + i]);
        for (int i = 0; i < times; i++) {
            String got = RandomRunsTest.answerOf(subject, words[first], arguments);
            if (end < words.length && !got.equals(due(words[end], words[end + 1]))) {
                wrong++;
                System.out.println(where + ": '" + call + "' answered " + got);
            }
        }
    }

    private static String due(String sign, String word) {
        if (sign.equals("=")) return Integer.toString(number(word));
        if (!EXCEPTIONS.containsKey(word)) throw new AssertionError("no exception " + word);
        return EXCEPTIONS.get(word);
    }

    private static int number(String word) {
        return WORDS.containsKey(word) ? WORDS.get(word) : Integer.parseInt(word);
    }
}
