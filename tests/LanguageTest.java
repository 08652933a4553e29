import java.io.IOException;
import java.lang.reflect.Field;
import java.lang.reflect.Method;
import java.lang.reflect.Modifier;
import java.nio.file.Files;
import java.nio.file.Path;
import java.util.ArrayList;
import java.util.Collections;
import java.util.List;
import java.util.Map;
import java.util.Set;
import java.util.TreeMap;
import java.util.TreeSet;
import java.util.regex.Matcher;
import java.util.regex.Pattern;

/** The face is the document's, and the source keeps to the rules of LANGUAGE.md that can be seen by a look at its words. */
public final class LanguageTest {
    private static final Path DOCUMENT = Path.of("../shared/DOC.md");
    private static final Path SOURCE = Path.of("src/main/java/RiverTolls.java");
    private static final int MOST_LINES = 60;
    private static final int MOST_DEEP = 8;

    private static final String FACE = """
        int back(int)
        int breaks(int)
        int byLord(int)
        int cheap(int, int)
        int clear()
        int count(int)
        int enough()
        int forget()
        int got(int)
        int keep(int)
        int lands()
        int left(int, int)
        int most(int, int)
        int nights(int)
        int now(int)
        int odds(int, int)
        int one()
        int pays()
        int rate(int, int)
        int river()
        int rock(int, int)
        int sells(int, int)
        int sets(int, int)
        int still()
        int takes(int, int)
        int toBreak(int)
        int took()
        int two(int)
        int type(int)
        int undo()
        int way(int)
        long trace()
        """;

    private static int wrong;

    private static void hold(boolean holds, String what) {
        if (!holds) {
            wrong++;
            System.out.println("LanguageTest: " + what);
        }
    }

    private static String shape(Method m) {
        List<String> types = new ArrayList<>();
        for (Class<?> type : m.getParameterTypes()) types.add(type.getName());
        return m.getReturnType().getName() + " " + m.getName() + "(" + String.join(", ", types) + ")";
    }

    private static void face() {
        List<String> shapes = new ArrayList<>();
        List<String> open = new ArrayList<>();
        List<String> closed = new ArrayList<>();
        for (Method m : RiverTolls.class.getDeclaredMethods()) {
            if (m.isSynthetic()) continue;
            if (Modifier.isPrivate(m.getModifiers())) {
                closed.add(m.getName());
                continue;
            }
            hold(Modifier.isPublic(m.getModifiers()) && !Modifier.isStatic(m.getModifiers()), m + " is not public");
            shapes.add(shape(m));
            open.add(m.getName());
        }
        Collections.sort(shapes);
        hold(FACE.equals(String.join("\n", shapes) + "\n"), "the methods are " + shapes);
        closed.retainAll(open);
        hold(closed.isEmpty(), "private methods with a public one's name: " + closed);
        List<String> fields = new ArrayList<>();
        for (Field f : RiverTolls.class.getDeclaredFields()) {
            if (!Modifier.isPrivate(f.getModifiers())) fields.add(Modifier.toString(f.getModifiers()) + " " + f.getName());
        }
        Collections.sort(fields);
        String p = "public static final ";
        hold(fields.equals(List.of(p + "BAD", p + "FULL", p + "NO", p + "NONE", p + "STATE")), "the constants are " + fields);
        hold(Modifier.toString(RiverTolls.class.getModifiers()).equals("public final"), "the class is not public final");
        hold(RiverTolls.class.getDeclaredConstructors().length == 1, "more constructors than one");
    }

    /** The comments that the document wants ahead of calls stand there, and the calls behind them in its order. */
    private static void groups(String source) throws IOException {
        if (!Files.isReadable(DOCUMENT)) {
            System.out.println("LanguageTest: no document at " + DOCUMENT + ", so that its groups of calls were not looked for");
            return;
        }
        Matcher group = Pattern.compile("(?m)^Ahead of the calls (.*) the interface says: (---- .*)\\.$").matcher(Files.readString(DOCUMENT));
        int groups = 0;
        for (; group.find(); groups++) {
            String[] parts = source.split("// " + group.group(2) + "\n", -1);
            hold(parts.length == 2, "not once: " + group.group(2));
            if (parts.length != 2) continue;
            List<String> calls = new ArrayList<>();
            Matcher call = Pattern.compile("(?m)^    public \\w+ (\\w+)\\(").matcher(parts[1].split("// ---- ")[0]);
            for (; call.find();) calls.add("`" + call.group(1) + "`");
            hold(String.join(", ", calls).equals(group.group(1)), "behind " + group.group(2) + " stand " + calls);
        }
        hold(groups == 6, "the document tells " + groups + " groups of calls");
    }

    private static void classesInside() {
        Class<?>[] inside = RiverTolls.class.getDeclaredClasses();
        hold(inside.length < 12, "too many classes");
        for (Class<?> c : inside) {
            hold(Modifier.isStatic(c.getModifiers()) && !Modifier.isPublic(c.getModifiers()), c + " is not static");
            int held = 0;
            for (Field f : c.getDeclaredFields()) {
                if (!Modifier.isStatic(f.getModifiers())) held++;
                else hold(Modifier.isFinal(f.getModifiers()), f + " is not final");
            }
            hold(held <= 20, c + " has too many fields");
        }
    }

    /** The source without comments and texts. */
    private static String bare(String source) {
        return source.replaceAll("(?s)/\\*.*?\\*/", "").replaceAll("//[^\n]*", "").replaceAll("'[^']'", "0").replaceAll("\"[^\"\n]*\"", "0");
    }

    private static void words(String bare) {
        String banned = "throw|throws|try|catch|synchronized|assert|import|package|while|Object|hashCode|equals|toString|var|yield|"
            + "System|Thread|instanceof|double|float|native|transient|volatile|strictfp|protected|Exception|\\w+Exact";
        Matcher m = Pattern.compile("\\b(" + banned + ")\\b|->|::|@|\\\\u").matcher(bare);
        for (; m.find();) hold(false, "the source says " + m.group());
        Matcher index = Pattern.compile("\\b(\\w+)\\[(\\w+)\\]").matcher(bare);
        for (; index.find();) {
            String guard = index.group(2) + " < " + index.group(1) + ".length";
            boolean isNew = bare.substring(0, index.start()).endsWith("new ");
            String ahead = bare.substring(Math.max(0, index.start() - 200), index.start());
            hold(isNew || ahead.contains(guard), index.group() + " without a look at its index");
        }
        Matcher divisor = Pattern.compile("[/%]\\s*(\\w+)").matcher(bare);
        for (; divisor.find();) {
            String by = divisor.group(1);
            String ahead = bare.substring(Math.max(0, divisor.start() - 200), divisor.start());
            boolean isConstant = by.matches("[1-9][0-9]*|[A-Z_]+");
            hold(isConstant || ahead.contains(by + " > 0") || ahead.contains(by + " != 0"), divisor.group() + " without a look at it");
        }
    }

    private static void lengths(String source) {
        int lines = 0;
        for (String line : source.split("\n", -1)) {
            boolean opens = line.matches(" {4,8}\\S.*\\) \\{");
            boolean ends = line.matches(" {4,8}\\}");
            lines = opens || ends ? 0 : lines + 1;
            hold(lines <= MOST_LINES, "a method longer than " + MOST_LINES + " lines at " + line);
        }
    }

    /** By name, what stands in each method and constructor: methods of one name count as one. */
    private static Map<String, String> bodies(String bare) {
        Map<String, String> bodies = new TreeMap<>();
        Matcher m = Pattern.compile("(?m)^( {4}| {8})(?=[^ \n]).*?\\b(\\w+)\\([^()\n]*\\) \\{\n((?:.*\n)*?)\\1\\}").matcher(bare);
        for (int from = 0; m.find(from); from = m.end()) bodies.merge(m.group(2), m.group(3), String::concat);
        return bodies;
    }

    /** All calls of a run live in one room: none of them makes anything, only the constructors do. */
    private static void objects(String bare) {
        Map<String, String> bodies = bodies(bare);
        int made = 0;
        for (String name : bodies.keySet()) {
            int makes = bodies.get(name).split("\\bnew\\b", -1).length - 1;
            boolean isConstructor = Character.isUpperCase(name.charAt(0));
            hold(isConstructor || makes == 0 && !bodies.get(name).contains("clone("), name + " makes an object");
            made += makes;
        }
        hold(made == bare.split("\\bnew\\b", -1).length - 1, "an object is made outside of methods");
    }

    private static Map<String, Set<String>> calls(String bare) {
        Map<String, String> bodies = bodies(bare);
        Map<String, Set<String>> calls = new TreeMap<>();
        for (String name : bodies.keySet()) {
            Set<String> called = new TreeSet<>();
            Matcher c = Pattern.compile("(\\w+)\\(").matcher(bodies.get(name));
            for (; c.find();) if (bodies.containsKey(c.group(1))) called.add(c.group(1));
            calls.put(name, called);
        }
        return calls;
    }

    private static int depth(Map<String, Set<String>> calls, String name, int open) {
        if (open > MOST_DEEP) return open;
        int deepest = 1;
        for (String called : calls.get(name)) deepest = Math.max(deepest, 1 + depth(calls, called, open + 1));
        return deepest;
    }

    private static void depths(String bare) {
        Map<String, Set<String>> calls = calls(bare);
        hold(calls.size() > 60, "just " + calls.size() + " methods were found");
        for (String name : calls.keySet()) {
            int depth = depth(calls, name, 1);
            hold(depth <= MOST_DEEP, name + " calls " + depth + " deep");
        }
    }

    public static void main(String[] args) throws IOException {
        face();
        classesInside();
        String source = Files.readString(SOURCE);
        hold(source.chars().allMatch(c -> c == '\n' || c >= 32 && c < 127), "a sign beyond 126 in the source");
        groups(source);
        words(bare(source));
        depths(bare(source));
        objects(bare(source));
        lengths(source);
        System.out.println("LanguageTest: " + wrong + " wrong");
        if (wrong != 0) System.exit(1);
    }
}
