import java.io.IOException;
import java.nio.file.Files;
import java.nio.file.Path;
import java.util.List;
import java.util.Set;
import java.util.TreeSet;
import java.util.regex.Matcher;
import java.util.regex.Pattern;

/** What of LANGUAGE.md can be seen in the text of the class. Takes the file's path. */
public final class LanguageTest {
    private static int wrong;

    public static void main(String[] arguments) throws IOException {
        String path = arguments.length > 0 ? arguments[0] : "src/main/java/Twinphase.java";
        String text = Files.readString(Path.of(path));
        for (int i = 0; i < text.length(); i++) due("signs are 1 to 127", text.charAt(i) > 0 && text.charAt(i) < 128);
        String code = withoutComments(text);
        words(code);
        library(code);
        exceptions(code);
        methods(code);
        System.out.println("LanguageTest: " + wrong + " wrong");
        System.exit(wrong == 0 ? 0 : 1);
    }

    private static void due(String what, boolean isSo) {
        if (!isSo) {
            wrong++;
            System.out.println("not so: " + what);
        }
    }

    private static String withoutComments(String text) {
        return text.replaceAll("(?s)/\\*.*?\\*/", "").replaceAll("//[^\n]*", "").replaceAll("\"[^\"\n]*\"", "\"\"");
    }

    /** Rules 2, 5, 6 and 8: what is not in the language. */
    private static void words(String code) {
        for (String word : List.of("->", "::", "@", "%s")) due("no " + word, !code.contains(word));
        for (String word : List.of("package", "protected", "synchronized", "assert", "finally", "try", "catch", "instanceof", "record",
            "native", "volatile", "transient", "strictfp", "var", "float", "double", "while (true)", "equals", "hashCode", "toString")) {
            due("no " + word, !Pattern.compile("\\b" + Pattern.quote(word) + "(\\b|$)").matcher(code).find());
        }
        due("no static initialiser", !Pattern.compile("static\\s*\\{").matcher(code).find());
        due("no text is joined by +", !Pattern.compile("\"\\s*\\+|\\+\\s*\"").matcher(code).find());
    }

    /** Rule 4: of the library just these. */
    private static void library(String code) {
        Set<String> imports = found(code, "import ([\\w.]+);");
        due("imports just Arrays, not " + imports, imports.equals(Set.of("java.util.Arrays")));
        Set<String> statics = found(code, "\\b((?:Arrays|Math|Integer|Long|System|List|String)\\.\\w+)");
        due("of the library " + statics, Set.of("Arrays.copyOf", "Arrays.fill", "Math.max", "Math.min", "Integer.bitCount").containsAll(statics));
    }

    /** Rule 6: what is thrown, and that it bears just a written text. */
    private static void exceptions(String code) {
        Matcher thrown = Pattern.compile("\\bthrow\\s+([^;]*);").matcher(code);
        while (thrown.find()) {
            due("thrown as written: " + thrown.group(1), thrown.group(1).matches(
                "new (IllegalState|IllegalArgument|IndexOutOfBounds)Exception\\((\"\")?\\)"));
        }
    }

    /** Rule 11: short methods. */
    private static void methods(String code) {
        Matcher method = Pattern.compile("(?m)^( {4}| {8})(?:\\w+ )+\\w+\\([^)]*\\)[^;{]*\\{\n(?s:.*?)\n\\1\\}").matcher(code);
        int seen = 0;
        while (method.find()) {
            seen++;
            due("at most sixty lines: " + method.group().split("\n")[0], method.group().split("\n").length <= 60);
        }
        due("methods are found", seen > 50);
    }

    private static Set<String> found(String code, String pattern) {
        Set<String> all = new TreeSet<>();
        Matcher matcher = Pattern.compile(pattern).matcher(code);
        while (matcher.find()) all.add(matcher.group(1));
        return all;
    }
}
