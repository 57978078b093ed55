import java.io.IOException;
import java.lang.reflect.Field;
import java.lang.reflect.Member;
import java.lang.reflect.Method;
import java.lang.reflect.Modifier;
import java.nio.file.DirectoryStream;
import java.nio.file.Files;
import java.nio.file.Path;
import java.util.regex.Matcher;
import java.util.regex.Pattern;

/** README.md: its examples answer what stands behind them, and it names all there is. Run from the project's root. */
public final class ReadmeTest {
    private static final Path PAGE = Path.of("README.md");
    private static final Path TESTS = Path.of("src", "test", "java");
    private static final Pattern CODE = Pattern.compile("(?s)```java\n(.*?)```");
    private static final String MAKING = "GrindingCircuit x = new GrindingCircuit();";
    private static final Pattern CALL = Pattern.compile("x\\.(\\w+)\\((.*)\\); +// (-?\\d+)(, .*)?");
    private static final Check CHECK = new Check();

    public static void main(String[] args) throws IOException, ReflectiveOperationException {
        String page = Files.readString(PAGE);
        Matcher code = CODE.matcher(page);
        int examples = 0;
        while (code.find()) {
            examples++;
            example(code.group(1).split("\n"));
        }
        CHECK.due("number of examples", 3, examples);
        namesTheFace(page);
        namesTheTests(page);
        CHECK.end();
    }

    private static void example(String[] lines) throws ReflectiveOperationException {
        CHECK.holds("an example makes an object first", lines[0].equals(MAKING));
        Circuit x = new Circuit();
        for (int line = 1; line < lines.length; line++) {
            Matcher call = CALL.matcher(lines[line]);
            boolean known = call.matches();
            CHECK.holds("a call with its answer: " + lines[line], known);
            if (known) {
                long got = x.call(call.group(1), arguments(call.group(2).split(", ")));
                CHECK.due(lines[line], Long.parseLong(call.group(3)), got);
            }
        }
    }

    private static int[] arguments(String[] texts) throws ReflectiveOperationException {
        int[] values = new int[texts.length];
        for (int i = 0; i < texts.length; i++) {
            String name = texts[i].replace("GrindingCircuit.", "");
            values[i] = name.equals(texts[i])
                    ? Integer.parseInt(name)
                    : GrindingCircuit.class.getField(name).getInt(null);
        }
        return values;
    }

    private static void namesTheFace(String page) throws IllegalAccessException {
        for (Method method : GrindingCircuit.class.getDeclaredMethods()) {
            named(page, method);
        }
        for (Field constant : GrindingCircuit.class.getDeclaredFields()) {
            named(page, constant);
            if (Modifier.isPublic(constant.getModifiers()) && constant.getInt(null) < 0) {
                String row = "| `" + constant.getName() + "` (" + constant.getInt(null) + ") |";
                CHECK.holds("the page tells " + row, page.contains(row));
            }
        }
    }

    private static void named(String page, Member member) {
        if (Modifier.isPublic(member.getModifiers())) {
            boolean stands = Pattern.compile("\\b" + member.getName() + "\\b").matcher(page).find();
            CHECK.holds("the page names " + member.getName(), stands);
        }
    }

    private static void namesTheTests(String page) throws IOException {
        try (DirectoryStream<Path> files = Files.newDirectoryStream(TESTS, "*Test.java")) {
            for (Path file : files) {
                String row = "| " + file.getFileName().toString().replace(".java", "") + " |";
                CHECK.holds("the page tells of " + row, page.contains(row));
            }
        }
    }
}
