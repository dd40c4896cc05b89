import java.io.File;
import java.io.IOException;
import java.lang.reflect.Method;
import java.lang.reflect.Modifier;
import java.nio.file.Files;
import java.nio.file.Path;
import java.util.ArrayList;
import java.util.HashMap;
import java.util.List;
import java.util.Map;
import java.util.Set;
import java.util.TreeSet;
import java.util.regex.Matcher;
import java.util.regex.Pattern;

/** What README.md says is so: its examples, whose comments begin with the answer, and the names in its tables. */
public final class ReadmeTest {
    private static final Pattern EXAMPLE = Pattern.compile("(?s)```java\n(.*?)```");
    private static final Pattern LINE = Pattern.compile("(?:int (\\w+) = )?x\\.(\\w+)\\(([^)]*)\\); +// ([\\w-]+).*");
    private static final Pattern NAME = Pattern.compile("`(\\w+)`");

    public static void main(String[] arguments) throws IOException {
        String text = Files.readString(Path.of("README.md"));
        int examples = 0;
        for (Matcher example = EXAMPLE.matcher(text); example.find(); ) {
            examples++;
            Script.play("README, example " + examples, calls(example.group(1)));
        }
        Script.due("README has three examples", examples == 3);
        names(text);
        Script.end("ReadmeTest");
    }

    /** An example as a script. */
    private static String[] calls(String example) {
        Map<String, String> numbers = new HashMap<>(Map.of("false", "plain", "true", "staged"));
        List<String> calls = new ArrayList<>();
        String[] lines = example.split("\n");
        Script.due("an example makes its object first", lines[0].equals("Twinphase x = new Twinphase();"));
        for (int i = 1; i < lines.length; i++) {
            Matcher line = LINE.matcher(lines[i]);
            if (!line.matches()) {
                Script.due("a call and its answer: " + lines[i], false);
                continue;
            }
            StringBuilder call = new StringBuilder(line.group(2));
            for (String word : line.group(3).split(", ")) {
                if (!word.isEmpty()) call.append(' ').append(numbers.getOrDefault(word, word));
            }
            calls.add(call.append(" = ").append(line.group(4)).toString());
            if (line.group(1) != null) numbers.put(line.group(1), line.group(4));
        }
        return calls.toArray(new String[0]);
    }

    private static void names(String text) {
        Set<String> calls = new TreeSet<>();
        for (Method method : Twinphase.class.getDeclaredMethods()) {
            if (Modifier.isPublic(method.getModifiers())) calls.add(method.getName());
        }
        Script.due("README names all calls", inFirstColumn(text, "| calls |").equals(calls));
        Script.due("README names all answers",
            inFirstColumn(text, "| answer |").equals(Set.of("DONE", "WAITS", "RESTART", "ENDED", "DOWN")));
        Set<String> tests = new TreeSet<>();
        String[] files = new File("src/test/java").list();
        for (String file : files) if (file.endsWith("Test.java")) tests.add(file.replace(".java", ""));
        Script.due("README names all tests", inFirstColumn(text, "| test |").equals(tests));
    }

    private static Set<String> inFirstColumn(String text, String head) {
        Set<String> names = new TreeSet<>();
        int begin = text.indexOf(head);
        if (begin < 0) return names;
        for (String row : text.substring(begin).split("\n")) {
            if (!row.startsWith("|")) break;
            Matcher name = NAME.matcher(row.split("\\|")[1]);
            while (name.find()) names.add(name.group(1));
        }
        return names;
    }
}
