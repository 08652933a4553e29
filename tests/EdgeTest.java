import java.io.IOException;
import java.lang.reflect.Method;
import java.nio.file.Files;
import java.nio.file.Path;
import java.util.ArrayList;
import java.util.List;
import java.util.regex.Matcher;
import java.util.regex.Pattern;

/** Every sentence that the document promises, its edges too, stands in the words of a test; none of them is left out. */
public final class EdgeTest {
    private static final List<Class<?>> GROUPS = List.of(TextEdges.class, DeedEdges.class, AskEdges.class, KindEdges.class,
        PromiseEdges.class, RefusedEdges.class);
    /** Lines that say nothing of a call: headings, marks of a block, and what LanguageTest looks for in the source. */
    private static final Pattern FRAME = Pattern.compile("(?m)^(#|```|Ahead of the calls).*$|^=+ \\d+");
    /** The head of a promise: that there is such a call is looked for by LanguageTest. */
    private static final Pattern HEAD = Pattern.compile("`\\w+ \\w+\\([^)]*\\)`:");
    private static final Pattern WORD = Pattern.compile("[\\w-]+");

    private static final Path DOCUMENT = Path.of("../shared/DOC.md");

    private EdgeTest() {
    }

    /** All that is promised, in one line: without the first words, which only name it, the face's Java, and what is not promised. */
    private static String document() throws IOException {
        String all = Files.readString(DOCUMENT);
        String promised = all.substring(all.indexOf("An object is used for"), all.indexOf("## Not promised"));
        String said = FRAME.matcher(promised.replaceAll("(?s)```java.*?```", " ")).replaceAll(" ");
        return said.replaceAll("\\s+", " ");
    }

    private static void fail(String what) {
        Edges.wrong++;
        System.out.println("EdgeTest: " + what);
    }

    private static void run(Method test) throws ReflectiveOperationException {
        Edges.test = test.getDeclaringClass().getSimpleName() + "." + test.getName();
        int before = Edges.checks;
        test.invoke(null);
        if (Edges.checks == before) fail(Edges.test + " looks at nothing");
    }

    private static void lookUp(Method test, String document, boolean[] covered) {
        String words = test.getAnnotation(Says.class).value();
        int place = document.indexOf(words);
        if (place < 0) fail("the document doesn't say \"" + words + "\"");
        if (place != document.lastIndexOf(words)) fail("the document says more than once \"" + words + "\"");
        for (int i = 0; i < words.length() && place >= 0; i++) covered[place + i] = true;
    }

    private static void lookForOthers(String document, boolean[] covered) {
        Matcher head = HEAD.matcher(document);
        while (head.find()) for (int i = head.start(); i < head.end(); i++) covered[i] = true;
        Matcher word = WORD.matcher(document);
        while (word.find()) {
            boolean isHeld = covered[word.start()] && covered[word.end() - 1];
            int from = Math.max(0, word.start() - 40);
            int to = Math.min(document.length(), word.end() + 40);
            if (!isHeld) fail("no test holds \"" + word.group() + "\" in \"" + document.substring(from, to) + "\"");
        }
    }

    private static void lookUpAll(List<Method> tests) throws IOException {
        if (!Files.isReadable(DOCUMENT)) {
            System.out.println("EdgeTest: no document at " + DOCUMENT + ", so that its words were not looked for");
            return;
        }
        String document = document();
        boolean[] covered = new boolean[document.length()];
        for (Method test : tests) lookUp(test, document, covered);
        lookForOthers(document, covered);
    }

    public static void main(String[] args) throws IOException, ReflectiveOperationException {
        List<Method> tests = new ArrayList<>();
        for (Class<?> group : GROUPS) {
            for (Method test : group.getDeclaredMethods()) if (test.isAnnotationPresent(Says.class)) tests.add(test);
        }
        for (Method test : tests) run(test);
        lookUpAll(tests);
        System.out.println("EdgeTest: " + tests.size() + " sentences, " + Edges.checks + " checks, " + Edges.wrong + " wrong");
        if (Edges.wrong != 0) System.exit(1);
    }
}
