import java.io.IOException;
import java.nio.file.Files;
import java.nio.file.Path;
import java.util.regex.Matcher;
import java.util.regex.Pattern;

/** Those rules of LANGUAGE.md that a look at the text of the program can tell. Run from the project's root. */
public final class LanguageTest {
    private static final Path PROGRAM = Path.of("src", "main", "java", "GrindingCircuit.java");
    private static final String[][] RULED_OUT = {
        {"a package or an import", "\\b(package|import)\\b"},
        {"rule 2: lambda or method reference", "->|::"},
        {"rule 4: a name of the library that is not listed", "\\b(Integer|Long)\\.[A-Z]|\\w+Exact\\b"},
        {"rule 5: static initialiser block", "\\bstatic\\s*\\{"},
        {"rule 5: static field that is not final", "\\bstatic\\s+(int|long|boolean|char|String)\\b(\\[\\])?\\s+\\w+\\s*[=;]"},
        {"rule 6", "\\b(throw|throws|try|catch|synchronized|assert|equals|hashCode|toString)\\b"},
        {"rule 13", "\\b(System\\.(?!arraycopy)|Random|Thread)\\b"}};
    private static final Check CHECK = new Check();

    public static void main(String[] args) throws IOException {
        String text = Files.readString(PROGRAM);
        CHECK.holds("the text has signs 1 to 127 alone", text.chars().allMatch(sign -> sign >= 1 && sign <= 127));
        String code = text.replaceAll("(?s)/\\*.*?\\*/", " ").replaceAll("//[^\n]*", " ");
        for (String[] rule : RULED_OUT) {
            Matcher found = Pattern.compile(rule[1]).matcher(code);
            CHECK.holds(rule[0], !found.find());
        }
        onlyOnePublicName(code);
        onlyListedCalls(code);
        smallEnough(code);
        CHECK.end();
    }

    /** Rule 1: no other method bears the name of a public one. */
    private static void onlyOnePublicName(String code) {
        Matcher publics = Pattern.compile("public (?:int|long) (\\w+)\\(").matcher(code);
        int count = 0;
        while (publics.find()) {
            count++;
            Matcher named = Pattern.compile("\\b(?:int|long|boolean|void) " + publics.group(1) + "\\(").matcher(code);
            named.find();
            CHECK.holds("only one method is named " + publics.group(1), !named.find());
        }
        CHECK.due("number of public methods", 25, count);
    }

    /** Rule 4: of the library's classes, these functions are all that the program uses. */
    private static void onlyListedCalls(String code) {
        Matcher call = Pattern.compile("\\b[A-Z][a-z]\\w*\\.\\w+").matcher(code);
        while (call.find()) {
            CHECK.holds("rule 4: " + call.group(), call.group().matches("Math\\.(max|min)|System\\.arraycopy"));
        }
    }

    /** Rule 11: how many classes there are, and how long a method and its list of parameters. */
    private static void smallEnough(String code) {
        CHECK.holds("rule 11: classes", Pattern.compile("\\bclass \\w").matcher(code).results().count() <= 12);
        Matcher method = Pattern.compile("(?s)\\n( {4}| {8})\\w[^\\n;=]*\\(([^()]*)\\) \\{.*?\\n\\1\\}").matcher(code);
        int count = 0;
        while (method.find()) {
            count++;
            String first = method.group().strip().lines().findFirst().orElse("");
            CHECK.holds("rule 11: lines of " + first, method.group().lines().count() <= 61);
            CHECK.holds("rule 11: parameters of " + first, method.group(2).split(",").length <= 7);
        }
        CHECK.holds("methods were found", count > 25);
    }
}
