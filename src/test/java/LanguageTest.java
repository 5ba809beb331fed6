import java.io.IOException;
import java.nio.file.Files;
import java.nio.file.Path;
import java.util.Set;
import java.util.TreeSet;
import java.util.regex.Matcher;
import java.util.regex.Pattern;

/** The rules of LANGUAGE.md that the text of the program shows; its path is the first argument. */
final class LanguageTest {
    private static final String[] RULED_OUT = {
        "->", "::", "\\bcatch\\b", "\\btry\\b", "\\bfinally\\b", "\\bsynchronized\\b", "\\bassert\\b", "\\bthread",
        "\\bpackage\\b", "\\bSystem\\b(?!\\.arraycopy)", "\\bhashCode\\b", "\\bequals\\b", "\\btoString\\b",
        "\\bMath\\.(?!min|max|abs)", "\\w+Exact\\b", "\" *\\+", "\\+ *\"", "\\bstatic *\\{", "\\bprotected\\b",
        "\\bRandom\\b", "\\bObject\\b", "\\bgetClass\\b", "\\bvar\\b", "\\byield\\b",
    };
    private static final Set<String> THROWN = Set.of("IllegalStateException", "IllegalArgumentException",
            "IndexOutOfBoundsException", "ArithmeticException", "UnsupportedOperationException",
            "NoSuchElementException");

    /** All that the program may name: its own classes, and what rules 3, 4 and 6 list of the library. */
    private static final Set<String> NAMED = Set.of("MineHoist", "Mine", "Level", "Request", "Waiting", "Trip",
            "String", "StringBuilder", "Math", "IllegalStateException", "IllegalArgumentException",
            "IndexOutOfBoundsException", "ArithmeticException", "UnsupportedOperationException",
            "NoSuchElementException");

    public static void main(String[] args) throws IOException {
        if (args.length == 0) {
            System.out.println("LanguageTest wants the path of the program");
            System.exit(1);
        }
        String text = Files.readString(Path.of(args[0]));
        Check.due("the signs are plain", true, text.chars().allMatch(c -> c == '\n' || c >= 32 && c < 127));
        String code = text.replaceAll("(?s)/\\*.*?\\*/", "").replaceAll("//.*", "");
        for (String pattern : RULED_OUT) {
            Check.due("'" + pattern + "' is in the code", false, Pattern.compile(pattern).matcher(code).find());
        }
        Check.due("the imports", Set.of("java.util.NoSuchElementException"), found(code, "import ([^;]+);"));
        Set<String> named = found(code.replaceAll("\"[^\"]*\"", ""), "\\b([A-Z]\\w*[a-z]\\w*)");
        named.removeAll(NAMED);
        Check.due("what is named and not listed", Set.of(), named);
        Check.due("what is thrown is listed", true, THROWN.containsAll(found(code, "\\bthrow new (\\w+)\\(")));
        Check.due("each throw makes what it throws", count(code, "\\bthrow\\b"), count(code, "\\bthrow new \\w+\\(\""));
        methodsAreShort(code);
        Check.end("LanguageTest");
    }

    private static void methodsAreShort(String code) {
        int begun = 0;
        int number = 0;
        for (String line : code.split("\n", -1)) {
            number++;
            if (line.matches("( {4}| {8})(?! )[^=;]*\\).*\\{") && !line.contains("class ")) {
                begun = number;
            }
            if (line.matches("( {4}| {8})\\}") && begun > 0) {
                Check.due("the method that ends at line " + number + " is short", true, number - begun <= 60);
                begun = 0;
            }
        }
    }

    private static Set<String> found(String code, String pattern) {
        Set<String> all = new TreeSet<>();
        Matcher matcher = Pattern.compile(pattern).matcher(code);
        while (matcher.find()) {
            all.add(matcher.group(1));
        }
        return all;
    }

    private static int count(String code, String pattern) {
        int count = 0;
        Matcher matcher = Pattern.compile(pattern).matcher(code);
        while (matcher.find()) {
            count++;
        }
        return count;
    }
}
