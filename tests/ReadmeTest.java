import java.io.IOException;
import java.lang.reflect.Method;
import java.lang.reflect.Modifier;
import java.nio.file.Files;
import java.nio.file.Path;
import java.util.regex.Matcher;
import java.util.regex.Pattern;

/** The examples of README.md answer what is written beside them, and its table has a row for every call. */
public final class ReadmeTest {
    private static final Pattern EXAMPLE = Pattern.compile("(?s)```java\n(.*?)```");
    private static final Pattern TEXT = Pattern.compile("String text = \"(.*)\";");
    private static final Pattern CALL = Pattern.compile("(?m)^[xy]\\.(\\w+\\([^)]*\\)); +// (-?\\w+):");

    private ReadmeTest() {
    }

    private static void example(String java) {
        Run run = new Run();
        Matcher text = TEXT.matcher(java);
        if (text.find()) run.type(text.group(1));
        int before = Edges.checks;
        Matcher call = CALL.matcher(java);
        while (call.find()) Edges.goOn(run, call.group(1) + "=" + call.group(2));
        Edges.due(run, "calls of an example", Edges.checks - before, java.lines().filter(line -> line.contains("//")).count());
    }

    private static String row(Method call) {
        StringBuilder numbers = new StringBuilder();
        for (var number : call.getParameters()) numbers.append(numbers.isEmpty() ? "" : ", ").append("\\w+");
        return "(?m)^\\| `" + call.getName() + "\\(" + numbers + "\\)` \\| .+ \\|$";
    }

    public static void main(String[] args) throws IOException {
        Edges.test = "ReadmeTest";
        String readme = Files.readString(Path.of("README.md"));
        Matcher java = EXAMPLE.matcher(readme);
        int examples = 0;
        for (; java.find(); examples++) example(java.group(1));
        Edges.due("README.md", "examples", examples, 2);
        for (Method call : RiverTolls.class.getDeclaredMethods()) {
            if (!Modifier.isPublic(call.getModifiers())) continue;
            long rows = Pattern.compile(row(call)).matcher(readme).results().count();
            Edges.due("README.md", "rows for " + call.getName(), rows, 1);
        }
        System.out.println("ReadmeTest: " + Edges.checks + " checks, " + Edges.wrong + " wrong");
        if (Edges.wrong != 0) System.exit(1);
    }
}
