import java.nio.file.Files;
import java.nio.file.Path;
import java.util.regex.Matcher;
import java.util.regex.Pattern;

/** Words that the rules of the language leave no place for in the program. Run where src/ is. */
public final class RulesTest {
    private static final String[] FORBIDDEN = {
        "\\bimport\\b(?! java\\.util\\.\\w+;)", "\\bpackage\\b", "(?<!case [\\w, ]{1,60}|default )->", "::", "\\bfinally\\b",
        "\\bthrows\\b", "\\bsynchronized\\b", "\\bassert\\b", "\\bprotected\\b", "\\bObject\\b",
        "\\bSystem\\.(?!arraycopy\\b)", "\\bMath\\.\\w+Exact\\b", "\\bThread\\b", "\\bhashCode\\b", "\\bextends \\w*Exception\\b",
        "\\bcatch \\(\\s*(NullPointer|ArrayIndexOutOfBounds|ClassCast|NegativeArraySize|ArrayStore)Exception\\b",
        "\\bstatic\\s*\\{", "\\bstatic\\s+(?!final\\b)[\\w\\[\\]]+\\s+\\w+\\s*[=;]"};
    /** "Some sixty lines" and "some twelve classes". */
    private static final int LONGEST_METHOD = 66;
    private static final int MOST_CLASSES = 13;

    private RulesTest() {
    }

    public static void main(String[] args) throws Exception {
        String text = Files.readString(Path.of("src/main/java/TestVersions.java"));
        String code = text.replaceAll("(?s)/\\*.*?\\*/", "").replaceAll("//[^\\n]*", "");
        for (String forbidden : FORBIDDEN) {
            Matcher matcher = Pattern.compile(forbidden).matcher(code);
            Check.holds("no " + forbidden + " in the program", !matcher.find());
        }
        Matcher classes = Pattern.compile("\\bclass\\s+\\w+").matcher(code);
        Check.holds("some twelve classes at most", classes.results().count() <= MOST_CLASSES);
        checkLengths(text);
        Check.end("RulesTest");
    }

    private static void checkLengths(String text) {
        int start = 0;
        int number = 0;
        for (String line : text.split("\n")) {
            number++;
            if (line.matches(" {4,8}(?!private static final class)\\S.*\\(.*\\) \\{")) {
                start = number;
            }
            if (line.matches(" {4,8}\\}") && start > 0) {
                Check.holds("the method that ends at line " + number + " is short", number - start < LONGEST_METHOD);
                start = 0;
            }
        }
    }
}
