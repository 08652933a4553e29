import java.io.IOException;
import java.lang.reflect.Method;
import java.nio.file.Files;
import java.nio.file.Path;
import java.util.ArrayList;
import java.util.List;
import java.util.regex.Matcher;
import java.util.regex.Pattern;

/** Each sentence of the document that names an edge has a test of its own; none of them is left out. */
public final class EdgeTest {
    private static final List<Class<?>> GROUPS = List.of(TextEdges.class, DeedEdges.class, AskEdges.class, KindEdges.class,
        PromiseEdges.class, RefusedEdges.class);
    /** What an edge is told by. */
    private static final Pattern EDGE = Pattern.compile("\\d+ \\.\\. \\d+|at most|at first|\\bonce\\b|too early|above|below|ahead of others"
        + "|too\\)|are known|older ones|\\bcut\\b|greater half|last one|least|of several|fewest|fewer|no BARRELS|passed|more ROCKS than"
        + "|Refused|refused|\\bBAD\\b|\\bSTATE\\b|\\bFULL\\b|\\bNONE\\b|\\bNO\\b|gone|nothing|not so|\\bnone\\b|no ROCKS|is empty");

    private static final Path DOCUMENT = Path.of("../shared/DOC.md");

    private EdgeTest() {
    }

    /** The document's promises in one line: without its first words, the face's Java, and what is not promised. */
    private static String document() throws IOException {
        String all = Files.readString(DOCUMENT);
        String promised = all.substring(all.indexOf("An object is used for"), all.indexOf("## Not promised"));
        return promised.replaceAll("(?s)```java.*?```", " ").replaceAll("\\s+", " ");
    }

    private static void fail(String what) {
        Edges.wrong++;
        System.out.println("EdgeTest: " + what);
    }

    private static void run(Method test) throws ReflectiveOperationException {
        Edges.test = test.getDeclaringClass().getSimpleName() + "." + test.getName();
        int before = Edges.checks;
        test.invoke(null);
        if (Edges.checks == before) fail(Edges.test + " looks at nothing");
    }

    private static void lookUp(Method test, String document, boolean[] covered) {
        String words = test.getAnnotation(Says.class).value();
        int place = document.indexOf(words);
        if (place < 0) fail("the document doesn't say \"" + words + "\"");
        if (place != document.lastIndexOf(words)) fail("the document says more than once \"" + words + "\"");
        for (int i = 0; i < words.length() && place >= 0; i++) covered[place + i] = true;
    }

    /** Every edge that the document tells is among the words of a test. */
    private static void lookForOthers(String document, boolean[] covered) {
        Matcher edge = EDGE.matcher(document);
        while (edge.find()) {
            boolean isHeld = covered[edge.start()] && covered[edge.end() - 1];
            int from = Math.max(0, edge.start() - 40);
            int to = Math.min(document.length(), edge.end() + 40);
            if (!isHeld) fail("no test holds \"" + document.substring(from, to) + "\"");
        }
    }

    private static void lookUpAll(List<Method> tests) throws IOException {
        if (!Files.isReadable(DOCUMENT)) {
            System.out.println("EdgeTest: no document at " + DOCUMENT + ", so that its words were not looked for");
            return;
        }
        String document = document();
        boolean[] covered = new boolean[document.length()];
        for (Method test : tests) lookUp(test, document, covered);
        lookForOthers(document, covered);
    }

    public static void main(String[] args) throws IOException, ReflectiveOperationException {
        List<Method> tests = new ArrayList<>();
        for (Class<?> group : GROUPS) {
            for (Method test : group.getDeclaredMethods()) if (test.isAnnotationPresent(Says.class)) tests.add(test);
        }
        for (Method test : tests) run(test);
        lookUpAll(tests);
        System.out.println("EdgeTest: " + tests.size() + " sentences, " + Edges.checks + " checks, " + Edges.wrong + " wrong");
        if (Edges.wrong != 0) System.exit(1);
    }
}
